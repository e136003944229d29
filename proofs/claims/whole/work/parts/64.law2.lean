/-! the law's body: rows, and a call at a time; my own -/
def zo_w (cA cR cL : ClassId) (ad : Nat → Nat) (o k : Nat) (u : zl_U) : va_W := zc_w cA cR ad k (zk_n k) (zk_t k) (zk_z k) (zk_i k) u.1 u.2.1 u.2.2.1 ++ [(o, .inl (cL, 1, .inr (.inl u.2.2.2)))]
section ZO1
variable {p : Program} {l : Launch} {e : Env} {R : Room} {s : State} {m : MethodId} {args : Array Value} {below : List Frame} {meth : Method} {c : Code} {H : Heap} {locs : List Loc} {cells slots : Nat} {Q : State → Prop}
variable {cc : ByteArray} {pc : Nat} {ls : Array Slot} {rest : List Value} {D : va_G} {cl : List vw_C} {A : Nat → Prop} {a : Nat} {tys : List (ClassId × FieldType)} {ws : va_W} {H0 : Heap} {mc ms : Nat}
theorem zl_calli {S : Type} {post : Int32 → S → Prop} {w' : S → va_W} {st0 : List Value} {aa : Array Value} (hD : va_D A ws) (hS : va_S A H0 H locs) (hA : ∀ q, H0.size ≤ q → A q)
    (hr : va_Run p l e R s m args below meth c H locs cells slots mc ms (F0 m pc ls st0) rest (va_Qi post (zw_at D cl tys (va_A ws H.size) w') (va_A ws H.size) aa) (va_A ws H.size))
    (kk : ∀ (r : Int32) (u : S) (H1 : Heap) (locs1 : List Loc), post r u → va_P D cl (w' u) H1 → va_D A (w' u) → va_S A H0 H1 locs1 → W p l e R s m args below meth c H1 locs1 (cells + mc) (slots + ms) Q (F0 m (pc + 3) ls (.int r :: rest))) : W p l e R s m args below meth c H locs cells slots Q (F0 m pc ls st0) := by
  have hF := zw_free hD hS hA
  refine va_calli hr hS (fun q _ h => hF q h) hF (fun r u t H1 locs1 ht _ hp hB _ _ hS1 => ?_)
  obtain ⟨hP1, _, hD1⟩ := hB
  rw [ht] at hP1
  exact kk r u H1 locs1 hp hP1 (hD1.weaken (fun k q _ h => hF q.1 h)) hS1
theorem zl_callv {S : Type} {post : S → Prop} {w' : S → va_W} {st0 : List Value} {aa : Array Value} (hD : va_D A ws) (hS : va_S A H0 H locs) (hA : ∀ q, H0.size ≤ q → A q)
    (hr : va_Run p l e R s m args below meth c H locs cells slots mc ms (F0 m pc ls st0) rest (va_Qv post (zw_at D cl tys (va_A ws H.size) w') (va_A ws H.size) aa) (va_A ws H.size))
    (kk : ∀ (u : S) (H1 : Heap) (locs1 : List Loc), post u → va_P D cl (w' u) H1 → va_D A (w' u) → va_S A H0 H1 locs1 → W p l e R s m args below meth c H1 locs1 (cells + mc) (slots + ms) Q (F0 m (pc + 3) ls rest)) : W p l e R s m args below meth c H locs cells slots Q (F0 m pc ls st0) := by
  have hF := zw_free hD hS hA
  refine va_callv hr hS (fun q _ h => hF q h) hF (fun u t H1 locs1 ht _ hp hB _ _ hS1 => ?_)
  obtain ⟨hP1, _, hD1⟩ := hB
  rw [ht] at hP1
  exact kk u H1 locs1 hp hP1 (hD1.weaken (fun k q _ h => hF q.1 h)) hS1
/-- a place of the script -/
theorem zl_sld (hexec : p.tables.exec = Jvm.exec) (hb : c.code = cc) {b L : Nat} {xs : Nat → Int32} (hX : va_X b L xs s H0) (hbl : b < H0.size) (hbA : ¬ A b) (hS : va_S A H0 H locs) {i : Nat} (hi : i < L) (hL : L < 2 ^ 31) (hdg : decode cc pc = .ok (.iaload, 1))
    (kk : W p l e R s m args below meth c H locs cells slots Q (F0 m (pc + 1) ls (.int (xs i) :: rest))) : W p l e R s m args below meth c H locs cells slots Q (F0 m pc ls (.int (nI i) :: .ref b :: rest)) := by
  refine va_sld hexec hb hX hbl hbA hS (vp_in_nI hi hL) hdg ?_
  rw [nI_clamp (Nat.lt_trans hi hL)]
  exact kk
theorem zl_lald (hexec : p.tables.exec = Jvm.exec) (hb : c.code = cc) (hK : va_K D cl tys s) (hP : va_P D cl ws H) (q0 t0 : Nat) {cL : ClassId} {f : Nat → Int64} (ha : ws[q0]? = some (a, .inl (cL, 1, .inr (.inl f)))) (ht : tys[t0]? = some (cL, .long)) {x : Int64} (hx : f 0 = x) (hdg : decode cc pc = .ok (.laload, 1))
    (kk : W p l e R s m args below meth c H locs cells slots Q (F0 m (pc + 1) ls (.long x :: rest))) : W p l e R s m args below meth c H locs cells slots Q (F0 m pc ls (.int (nI 0) :: .ref a :: rest)) := by
  refine va_lald hexec hb hK hP q0 t0 ha ht (vp_in_nI (show 0 < 1 by decide) (by decide)) hdg ?_
  rw [nI_clamp (by decide), hx]
  exact kk
/-- lcmp, ifeq, of two that are one -/
theorem zl_leq (hexec : p.tables.exec = Jvm.exec) (hb : c.code = cc) {x y : Int64} (hxy : x = y) {off : Int} {tgt : Nat} (hd1 : decode cc pc = .ok (.lcmp, 1)) (hd2 : decode cc (pc + 1) = .ok (.ifCond .eq off, 3)) (ht : ((pc + 1 : Nat) : Int) + off = (tgt : Int))
    (kt : W p l e R s m args below meth c H locs cells slots Q (F0 m tgt ls rest)) : W p l e R s m args below meth c H locs cells slots Q (F0 m pc ls (.long y :: .long x :: rest)) :=
  W.lcmp hexec hb hd1 (lv_if_eq hexec hb hd2 ht (fun _ => kt) (fun h => absurd ((lg_cmp_eq _ _).mpr hxy) h))
theorem zo_rotP {cA cR cL : ClassId} {wr : va_W} {ad : Nat → Nat} {o k : Nat} {u : zl_U} (h : va_P D cl (zl_w cA cR cL wr ad o k u) H) : va_P D cl (wr ++ (zo_w cA cR cL ad o k u)) H :=
  zw_rotP (by unfold zo_w; rw [List.append_assoc]; exact h)
theorem zo_rotD {cA cR cL : ClassId} {wr : va_W} {ad : Nat → Nat} {o k : Nat} {u : zl_U} (h : va_D A (zl_w cA cR cL wr ad o k u)) : va_D A (wr ++ (zo_w cA cR cL ad o k u)) :=
  zw_rotD (by unfold zo_w; rw [List.append_assoc]; exact h)
theorem zo_bakP {cA cR cL : ClassId} {wr : va_W} {ad : Nat → Nat} {o k : Nat} {u : zl_U} (h : va_P D cl (wr ++ (zo_w cA cR cL ad o k u)) H) : va_P D cl (zl_w cA cR cL wr ad o k u) H := by
  have h2 := zw_rotP h
  unfold zo_w at h2
  rw [List.append_assoc] at h2
  exact h2
theorem zo_bakD {cA cR cL : ClassId} {wr : va_W} {ad : Nat → Nat} {o k : Nat} {u : zl_U} (h : va_D A (wr ++ (zo_w cA cR cL ad o k u))) : va_D A (zl_w cA cR cL wr ad o k u) := by
  have h2 := zw_rotD h
  unfold zo_w at h2
  rw [List.append_assoc] at h2
  exact h2
end ZO1
/-- what stays over the law's whole run -/
def zo_C (p : Program) (l : Launch) (s : State) (m : MethodId) (meth : Method) (c : Code) (b L : Nat) (xs : Nat → Int32) (dC : Nat → ClassId) (dI : Nat → Nat → Nat) (cA cR cL : ClassId) : Prop :=
  p.tables.exec = Jvm.exec ∧ c.code = cL_law ∧ c.maxLocals = 8 ∧ s.vm.findClass RL = some m.cls ∧ (∀ w ∈ Cond.initialized RL :: zz_w, w.before #[Value.ref b] s = true) ∧ va_X b L xs s s.heap ∧ b < s.heap.size ∧ va_K (dC, dI) zz_cl [(cA, .int), (cR, .array .int), (cL, .long)] s ∧ zl_env (fun q : Nat => s.heap.size ≤ q) s ∧ l.stackTraces = false
/-- how the walk goes on behind one call -/
def zo_K (p : Program) (l : Launch) (e : Env) (s : State) (m : MethodId) (below : List Frame) (meth : Method) (c : Code) (cells slots : Nat) (Q : State → Prop) (b i : Nat) (dC : Nat → ClassId) (dI : Nat → Nat → Nat) (cA cR cL : ClassId) (mo ad : Nat → Nat) (o : Nat) : Prop :=
  ∀ (k th : Nat) (u : zl_U) (F fa fb fc fd : Nat → Nat) (H : Heap) (locs : List Loc) (ls : Array Slot), k < 4 → zy_R k u.2.1 u.2.2.1 F → va_P (dC, dI) zz_cl (zl_w cA cR cL (zm_w cA mo th k (zk_n k) (zk_t k) F fa fb fc fd) ad o k u) H → va_D (fun q : Nat => s.heap.size ≤ q) (zl_w cA cR cL (zm_w cA mo th k (zk_n k) (zk_t k) F fa fb fc fd) ad o k u) → va_S (fun q : Nat => s.heap.size ≤ q) s.heap H locs → lv_has ls 8 [(0, .ref b), (1, .ref (ad 0)), (2, .ref (mo 0)), (3, .ref o), (4, .int (nI i))] → W p l e room_1 s m #[Value.ref b] below meth c H locs (cells + 1) (slots + 6) Q (F0 m 1078 ls [])
set_option maxHeartbeats 4000000 in
set_option maxRecDepth 100000 in
theorem lo_begin {p : Program} {l : Launch} {e : Env} {s : State} {m : MethodId} {below : List Frame} {meth : Method} {c : Code} {H : Heap} {locs : List Loc} {cells slots : Nat} {Q : State → Prop} {ls : Array Slot} {b L i : Nat} {xs : Nat → Int32} {dC : Nat → ClassId} {dI : Nat → Nat → Nat} {cA cR cL : ClassId} {mo ad : Nat → Nat} {o k th : Nat} {S : Nat → Int32} {P : Nat → Nat} {V : Nat → Nat → Nat} {g : Nat → Int64} {F fa fb fc fd : Nat → Nat} (C : zo_C p l s m meth c b L xs dC dI cA cR cL) (hk : k < 4) (hR : zy_R k P V F) (hi : i + 5 ≤ L) (hL : L ≤ 2560) (hcs : cells + 1 ≤ 601024 ∧ slots + 6 ≤ 7293034)
    (hP : va_P (dC, dI) zz_cl (zl_w cA cR cL (zm_w cA mo th k (zk_n k) (zk_t k) F fa fb fc fd) ad o k ((S, P, V, g))) H) (hD : va_D (fun q : Nat => s.heap.size ≤ q) (zl_w cA cR cL (zm_w cA mo th k (zk_n k) (zk_t k) F fa fb fc fd) ad o k ((S, P, V, g)))) (hS : va_S (fun q : Nat => s.heap.size ≤ q) s.heap H locs) (hl : lv_has ls 8 [(0, .ref b), (1, .ref (ad 0)), (2, .ref (mo 0)), (3, .ref o), (4, .int (nI i))]) (kk : zo_K p l e s m below meth c cells slots Q b i dC dI cA cR cL mo ad o) : W p l e room_1 s m #[Value.ref b] below meth c H locs cells slots Q (F0 m 108 ls []) := by
  obtain ⟨hx, hb, hml, hown, hts, hX, hbl, hK, hE, hlt9⟩ := C
  have hA : ∀ q : Nat, s.heap.size ≤ q → (fun q : Nat => s.heap.size ≤ q) q := fun q h => h
  have hbA : ¬ (fun q : Nat => s.heap.size ≤ q) b := fun h => absurd hbl (Nat.not_lt.mpr h)
  obtain ⟨x, a, r0, k1, pv, pf, hC, hM, hx4, hk1, hra, hrel⟩ := st_begin l hlt9 dC dI cA cR cL [] mo ad o k hk P V F hR (xs (i + 1))
  refine lv_aload_n hx hb dL_law_108 rfl (lv_at hl 1 rfl) ?_
  refine lv_aload_n hx hb dL_law_109 rfl (lv_at hl 0 rfl) ?_
  refine lv_iload hx hb dL_law_110 (lv_at hl 4 rfl) ?_
  refine lv_iconst (v := nI 1) hx hb dL_law_112 (by decide) ?_
  refine zr_iadd hx hb dL_law_113 ?_
  refine zl_sld hx hb hX hbl hbA hS (by omega) (by omega) dL_law_114 ?_
  refine lv_aload_n hx hb dL_law_115 rfl (lv_at hl 3 rfl) ?_
  refine zl_calli (w' := fun u : zl_U => zl_w cA cR cL (zm_w cA mo th k (zk_n k) (zk_t k) F fa fb fc fd) ad o k1 u) hD hS hA (zx_runSW (n := 3) (As := [.ref (ad 0), .int (xs (i + 1)), .ref (o)]) (rest := []) hx hb hml hts hown (hC (zm_w cA mo th k (zk_n k) (zk_t k) F fa fb fc fd) S g H.size) zl_L_64 zs_L_begin zo_ValueRingLaw zdL_begin (by decide +kernel) rfl rfl ⟨Nat.le_of_ble_eq_true rfl, Nat.le_of_ble_eq_true rfl⟩ (zl_preS hP hK hD hE hS hA) rfl hl.1 rfl (Nat.le_of_ble_eq_true rfl) dL_law_116 hcs) (fun r9 u9 H locs hu hP hD hS => ?_)
  obtain ⟨hr9, hout, hpv⟩ := hu
  subst hr9
  replace hP := zo_rotP hP
  replace hD := zo_rotD hD
  refine lv_istore (lv' := [(5, .int (nI (x))), (0, .ref (b)), (1, .ref (ad 0)), (2, .ref (mo 0)), (3, .ref (o)), (4, .int (nI (i)))]) hx hb dL_law_119 hl (by decide) rfl (fun ls hl => ?_)
  refine lv_aload_n hx hb dL_law_121 rfl (lv_at hl 3 rfl) ?_
  refine lv_aload_n hx hb dL_law_122 rfl (lv_at hl 1 rfl) ?_
  refine lv_iload hx hb dL_law_123 (lv_at hl 5 rfl) ?_
  refine lv_iconst (v := nI 1) hx hb dL_law_125 (by decide) ?_
  refine zr_iadd hx hb dL_law_126 ?_
  refine zl_sld hx hb hX hbl hbA hS (by omega) (by omega) dL_law_127 ?_
  have hM2 := hM [(cR, .array .int), (cL, .long)] (zo_w cA cR cL ad o k1 u9) th fa fb fc fd H.size
  unfold zy_M at hM2
  refine zw_calli (w' := fun u : zq_U => zm_w cA mo x k1 (zk_n k1) (zk_t k1) u.1 u.2.1 u.2.2.1 u.2.2.2.1 u.2.2.2.2 ++ (zo_w cA cR cL ad o k1 u9)) hD hS hA (zx_runV (As := [.int (xs (i + 1))]) (rest := []) hx hb hml hts hown hM2 zv_L_69 rfl rfl ⟨Nat.le_of_ble_eq_true rfl, Nat.le_of_ble_eq_true rfl⟩ (zw_preV (q := (RX1, TM1, 9)) (ci := 1) (q0 := 0) hP hK hD rfl rfl) rfl hl.1 rfl (Nat.le_of_ble_eq_true rfl) dL_law_128 ⟨by show cells + 1 + 0 ≤ 601024; omega, by show slots + 6 + 0 ≤ 7293034; omega⟩) (fun r8 v9 H locs hu hP hD hS => ?_)
  obtain ⟨hr8, hpf⟩ := hu
  subst hr8
  refine lv_istore (lv' := [(6, .int (r8)), (5, .int (nI (x))), (0, .ref (b)), (1, .ref (ad 0)), (2, .ref (mo 0)), (3, .ref (o)), (4, .int (nI (i)))]) hx hb dL_law_131 hl (by decide) rfl (fun ls hl => ?_)
  refine lv_aload_n hx hb dL_law_133 rfl (lv_at hl 4 rfl) ?_
  refine zr_callq (zx_runV (As := []) (rest := []) hx hb hml hts hown (cm_thrown l dC dI cA [(cR, .array .int), (cL, .long)] (zo_w cA cR cL ad o k1 u9) mo x k1 v9.1 v9.2.1 v9.2.2.1 v9.2.2.2.1 v9.2.2.2.2 hk1) zv_L_70 rfl rfl ⟨Nat.le_of_ble_eq_true rfl, Nat.le_of_ble_eq_true rfl⟩ (zr_preV (q := (RX1, TM1, 9)) (ci := 1) (q0 := 0) hP hK rfl rfl) rfl hl.1 rfl (Nat.le_of_ble_eq_true rfl) dL_law_134 ⟨by show cells + 1 + 0 ≤ 601024; omega, by show slots + 6 + 0 ≤ 7293034; omega⟩) ?_
  refine lv_iload hx hb dL_law_137 (lv_at hl 1 rfl) ?_
  refine zr_ieq (tgt := 144) hx hb dL_law_139 (by decide) (by omega) (by omega) (fun _ => ?_) (fun hno9 => absurd hno9 (by omega))
  refine lv_iload hx hb dL_law_144 (lv_at hl 1 rfl) ?_
  refine zr_ifne (tgt := 161) hx hb dL_law_146 (by decide) (by omega) (fun hx0 => ?_) (fun hx0 => ?_)
  · refine lv_goto (tgt := 1078) hx hb dL_law_161 (by decide) ?_
    exact kk k1 x u9 v9.1 v9.2.1 v9.2.2.1 v9.2.2.2.1 v9.2.2.2.2 H locs ls hk1 (hrel _ _ _ hpv hpf) (zo_bakP hP) (zo_bakD hD) hS (lv_sub hl [2, 3, 4, 5, 6] rfl)
  · refine lv_aload_n hx hb dL_law_149 rfl (lv_at hl 5 rfl) ?_
    refine lv_iconst (v := nI 0) hx hb dL_law_150 (by decide) ?_
    refine zl_lald (x := a) hx hb hK hP 26 2 rfl rfl (hout hx0) dL_law_151 ?_
    refine lv_iload hx hb dL_law_152 (lv_at hl 0 rfl) ?_
    refine lv_i2l (v := r8.toInt64) hx hb dL_law_154 rfl ?_
    refine zl_leq (tgt := 161) hx hb (hra hx0).symm dL_law_155 dL_law_156 (by decide) ?_
    refine lv_goto (tgt := 1078) hx hb dL_law_161 (by decide) ?_
    exact kk k1 x u9 v9.1 v9.2.1 v9.2.2.1 v9.2.2.2.1 v9.2.2.2.2 H locs ls hk1 (hrel _ _ _ hpv hpf) (zo_bakP hP) (zo_bakD hD) hS (lv_sub hl [2, 3, 4, 5, 6] rfl)
set_option maxHeartbeats 4000000 in
set_option maxRecDepth 100000 in
theorem lo_set {p : Program} {l : Launch} {e : Env} {s : State} {m : MethodId} {below : List Frame} {meth : Method} {c : Code} {H : Heap} {locs : List Loc} {cells slots : Nat} {Q : State → Prop} {ls : Array Slot} {b L i : Nat} {xs : Nat → Int32} {dC : Nat → ClassId} {dI : Nat → Nat → Nat} {cA cR cL : ClassId} {mo ad : Nat → Nat} {o k th : Nat} {S : Nat → Int32} {P : Nat → Nat} {V : Nat → Nat → Nat} {g : Nat → Int64} {F fa fb fc fd : Nat → Nat} (C : zo_C p l s m meth c b L xs dC dI cA cR cL) (hk : k < 4) (hR : zy_R k P V F) (hi : i + 5 ≤ L) (hL : L ≤ 2560) (hcs : cells + 1 ≤ 601024 ∧ slots + 6 ≤ 7293034)
    (hP : va_P (dC, dI) zz_cl (zl_w cA cR cL (zm_w cA mo th k (zk_n k) (zk_t k) F fa fb fc fd) ad o k ((S, P, V, g))) H) (hD : va_D (fun q : Nat => s.heap.size ≤ q) (zl_w cA cR cL (zm_w cA mo th k (zk_n k) (zk_t k) F fa fb fc fd) ad o k ((S, P, V, g)))) (hS : va_S (fun q : Nat => s.heap.size ≤ q) s.heap H locs) (hl : lv_has ls 8 [(0, .ref b), (1, .ref (ad 0)), (2, .ref (mo 0)), (3, .ref o), (4, .int (nI i))]) (kk : zo_K p l e s m below meth c cells slots Q b i dC dI cA cR cL mo ad o) : W p l e room_1 s m #[Value.ref b] below meth c H locs cells slots Q (F0 m 164 ls []) := by
  obtain ⟨hx, hb, hml, hown, hts, hX, hbl, hK, hE, hlt9⟩ := C
  have hA : ∀ q : Nat, s.heap.size ≤ q → (fun q : Nat => s.heap.size ≤ q) q := fun q h => h
  have hbA : ¬ (fun q : Nat => s.heap.size ≤ q) b := fun h => absurd hbl (Nat.not_lt.mpr h)
  obtain ⟨x, a, r0, k1, pv, pf, hC, hM, hx4, hk1, hra, hrel⟩ := st_set l hlt9 dC dI cA cR cL [] mo ad o k hk P V F hR (xs (i + 1)) (xs (i + 2)) (xs (i + 3))
  refine lv_aload_n hx hb dL_law_164 rfl (lv_at hl 1 rfl) ?_
  refine lv_aload_n hx hb dL_law_165 rfl (lv_at hl 0 rfl) ?_
  refine lv_iload hx hb dL_law_166 (lv_at hl 4 rfl) ?_
  refine lv_iconst (v := nI 1) hx hb dL_law_168 (by decide) ?_
  refine zr_iadd hx hb dL_law_169 ?_
  refine zl_sld hx hb hX hbl hbA hS (by omega) (by omega) dL_law_170 ?_
  refine lv_aload_n hx hb dL_law_171 rfl (lv_at hl 0 rfl) ?_
  refine lv_iload hx hb dL_law_172 (lv_at hl 4 rfl) ?_
  refine lv_iconst (v := nI 2) hx hb dL_law_174 (by decide) ?_
  refine zr_iadd hx hb dL_law_175 ?_
  refine zl_sld hx hb hX hbl hbA hS (by omega) (by omega) dL_law_176 ?_
  refine lv_aload_n hx hb dL_law_177 rfl (lv_at hl 0 rfl) ?_
  refine lv_iload hx hb dL_law_178 (lv_at hl 4 rfl) ?_
  refine lv_iconst (v := nI 3) hx hb dL_law_180 (by decide) ?_
  refine zr_iadd hx hb dL_law_181 ?_
  refine zl_sld hx hb hX hbl hbA hS (by omega) (by omega) dL_law_182 ?_
  refine lv_aload_n hx hb dL_law_183 rfl (lv_at hl 3 rfl) ?_
  refine zl_calli (w' := fun u : zl_U => zl_w cA cR cL (zm_w cA mo th k (zk_n k) (zk_t k) F fa fb fc fd) ad o k1 u) hD hS hA (zx_runSW (n := 5) (As := [.ref (ad 0), .int (xs (i + 1)), .int (xs (i + 2)), .int (xs (i + 3)), .ref (o)]) (rest := []) hx hb hml hts hown (hC (zm_w cA mo th k (zk_n k) (zk_t k) F fa fb fc fd) S g H.size) zl_L_74 zs_L_set zo_ValueRingLaw zdL_set (by decide +kernel) rfl rfl ⟨Nat.le_of_ble_eq_true rfl, Nat.le_of_ble_eq_true rfl⟩ (zl_preS hP hK hD hE hS hA) rfl hl.1 rfl (Nat.le_of_ble_eq_true rfl) dL_law_184 hcs) (fun r9 u9 H locs hu hP hD hS => ?_)
  obtain ⟨hr9, hout, hpv⟩ := hu
  subst hr9
  replace hP := zo_rotP hP
  replace hD := zo_rotD hD
  refine lv_istore (lv' := [(5, .int (nI (x))), (0, .ref (b)), (1, .ref (ad 0)), (2, .ref (mo 0)), (3, .ref (o)), (4, .int (nI (i)))]) hx hb dL_law_187 hl (by decide) rfl (fun ls hl => ?_)
  refine lv_aload_n hx hb dL_law_189 rfl (lv_at hl 3 rfl) ?_
  refine lv_aload_n hx hb dL_law_190 rfl (lv_at hl 1 rfl) ?_
  refine lv_iload hx hb dL_law_191 (lv_at hl 5 rfl) ?_
  refine lv_iconst (v := nI 1) hx hb dL_law_193 (by decide) ?_
  refine zr_iadd hx hb dL_law_194 ?_
  refine zl_sld hx hb hX hbl hbA hS (by omega) (by omega) dL_law_195 ?_
  refine lv_aload_n hx hb dL_law_196 rfl (lv_at hl 1 rfl) ?_
  refine lv_iload hx hb dL_law_197 (lv_at hl 5 rfl) ?_
  refine lv_iconst (v := nI 2) hx hb dL_law_199 (by decide) ?_
  refine zr_iadd hx hb dL_law_200 ?_
  refine zl_sld hx hb hX hbl hbA hS (by omega) (by omega) dL_law_201 ?_
  refine lv_aload_n hx hb dL_law_202 rfl (lv_at hl 1 rfl) ?_
  refine lv_iload hx hb dL_law_203 (lv_at hl 5 rfl) ?_
  refine lv_iconst (v := nI 3) hx hb dL_law_205 (by decide) ?_
  refine zr_iadd hx hb dL_law_206 ?_
  refine zl_sld hx hb hX hbl hbA hS (by omega) (by omega) dL_law_207 ?_
  have hM2 := hM [(cR, .array .int), (cL, .long)] (zo_w cA cR cL ad o k1 u9) th fa fb fc fd H.size
  unfold zy_M at hM2
  refine zw_calli (w' := fun u : zq_U => zm_w cA mo x k1 (zk_n k1) (zk_t k1) u.1 u.2.1 u.2.2.1 u.2.2.2.1 u.2.2.2.2 ++ (zo_w cA cR cL ad o k1 u9)) hD hS hA (zx_runV (As := [.int (xs (i + 1)), .int (xs (i + 2)), .int (xs (i + 3))]) (rest := []) hx hb hml hts hown hM2 zv_L_77 rfl rfl ⟨Nat.le_of_ble_eq_true rfl, Nat.le_of_ble_eq_true rfl⟩ (zw_preV (q := (RX1, TM1, 9)) (ci := 1) (q0 := 0) hP hK hD rfl rfl) rfl hl.1 rfl (Nat.le_of_ble_eq_true rfl) dL_law_208 ⟨by show cells + 1 + 0 ≤ 601024; omega, by show slots + 6 + 0 ≤ 7293034; omega⟩) (fun r8 v9 H locs hu hP hD hS => ?_)
  obtain ⟨hr8, hpf⟩ := hu
  subst hr8
  refine lv_istore (lv' := [(6, .int (r8)), (5, .int (nI (x))), (0, .ref (b)), (1, .ref (ad 0)), (2, .ref (mo 0)), (3, .ref (o)), (4, .int (nI (i)))]) hx hb dL_law_211 hl (by decide) rfl (fun ls hl => ?_)
  refine lv_aload_n hx hb dL_law_213 rfl (lv_at hl 4 rfl) ?_
  refine zr_callq (zx_runV (As := []) (rest := []) hx hb hml hts hown (cm_thrown l dC dI cA [(cR, .array .int), (cL, .long)] (zo_w cA cR cL ad o k1 u9) mo x k1 v9.1 v9.2.1 v9.2.2.1 v9.2.2.2.1 v9.2.2.2.2 hk1) zv_L_70 rfl rfl ⟨Nat.le_of_ble_eq_true rfl, Nat.le_of_ble_eq_true rfl⟩ (zr_preV (q := (RX1, TM1, 9)) (ci := 1) (q0 := 0) hP hK rfl rfl) rfl hl.1 rfl (Nat.le_of_ble_eq_true rfl) dL_law_214 ⟨by show cells + 1 + 0 ≤ 601024; omega, by show slots + 6 + 0 ≤ 7293034; omega⟩) ?_
  refine lv_iload hx hb dL_law_217 (lv_at hl 1 rfl) ?_
  refine zr_ieq (tgt := 224) hx hb dL_law_219 (by decide) (by omega) (by omega) (fun _ => ?_) (fun hno9 => absurd hno9 (by omega))
  refine lv_iload hx hb dL_law_224 (lv_at hl 1 rfl) ?_
  refine zr_ifne (tgt := 241) hx hb dL_law_226 (by decide) (by omega) (fun hx0 => ?_) (fun hx0 => ?_)
  · refine lv_goto (tgt := 1078) hx hb dL_law_241 (by decide) ?_
    exact kk k1 x u9 v9.1 v9.2.1 v9.2.2.1 v9.2.2.2.1 v9.2.2.2.2 H locs ls hk1 (hrel _ _ _ hpv hpf) (zo_bakP hP) (zo_bakD hD) hS (lv_sub hl [2, 3, 4, 5, 6] rfl)
  · refine lv_aload_n hx hb dL_law_229 rfl (lv_at hl 5 rfl) ?_
    refine lv_iconst (v := nI 0) hx hb dL_law_230 (by decide) ?_
    refine zl_lald (x := a) hx hb hK hP 26 2 rfl rfl (hout hx0) dL_law_231 ?_
    refine lv_iload hx hb dL_law_232 (lv_at hl 0 rfl) ?_
    refine lv_i2l (v := r8.toInt64) hx hb dL_law_234 rfl ?_
    refine zl_leq (tgt := 241) hx hb (hra hx0).symm dL_law_235 dL_law_236 (by decide) ?_
    refine lv_goto (tgt := 1078) hx hb dL_law_241 (by decide) ?_
    exact kk k1 x u9 v9.1 v9.2.1 v9.2.2.1 v9.2.2.2.1 v9.2.2.2.2 H locs ls hk1 (hrel _ _ _ hpv hpf) (zo_bakP hP) (zo_bakD hD) hS (lv_sub hl [2, 3, 4, 5, 6] rfl)
set_option maxHeartbeats 4000000 in
set_option maxRecDepth 100000 in
theorem lo_get {p : Program} {l : Launch} {e : Env} {s : State} {m : MethodId} {below : List Frame} {meth : Method} {c : Code} {H : Heap} {locs : List Loc} {cells slots : Nat} {Q : State → Prop} {ls : Array Slot} {b L i : Nat} {xs : Nat → Int32} {dC : Nat → ClassId} {dI : Nat → Nat → Nat} {cA cR cL : ClassId} {mo ad : Nat → Nat} {o k th : Nat} {S : Nat → Int32} {P : Nat → Nat} {V : Nat → Nat → Nat} {g : Nat → Int64} {F fa fb fc fd : Nat → Nat} (C : zo_C p l s m meth c b L xs dC dI cA cR cL) (hk : k < 4) (hR : zy_R k P V F) (hi : i + 5 ≤ L) (hL : L ≤ 2560) (hcs : cells + 1 ≤ 601024 ∧ slots + 6 ≤ 7293034)
    (hP : va_P (dC, dI) zz_cl (zl_w cA cR cL (zm_w cA mo th k (zk_n k) (zk_t k) F fa fb fc fd) ad o k ((S, P, V, g))) H) (hD : va_D (fun q : Nat => s.heap.size ≤ q) (zl_w cA cR cL (zm_w cA mo th k (zk_n k) (zk_t k) F fa fb fc fd) ad o k ((S, P, V, g)))) (hS : va_S (fun q : Nat => s.heap.size ≤ q) s.heap H locs) (hl : lv_has ls 8 [(0, .ref b), (1, .ref (ad 0)), (2, .ref (mo 0)), (3, .ref o), (4, .int (nI i))]) (kk : zo_K p l e s m below meth c cells slots Q b i dC dI cA cR cL mo ad o) : W p l e room_1 s m #[Value.ref b] below meth c H locs cells slots Q (F0 m 244 ls []) := by
  obtain ⟨hx, hb, hml, hown, hts, hX, hbl, hK, hE, hlt9⟩ := C
  have hA : ∀ q : Nat, s.heap.size ≤ q → (fun q : Nat => s.heap.size ≤ q) q := fun q h => h
  have hbA : ¬ (fun q : Nat => s.heap.size ≤ q) b := fun h => absurd hbl (Nat.not_lt.mpr h)
  obtain ⟨x, a, r0, k1, pv, pf, hC, hM, hx4, hk1, hra, hrel⟩ := st_get l hlt9 dC dI cA cR cL [] mo ad o k hk P V F hR (xs (i + 1)) (xs (i + 2))
  refine lv_aload_n hx hb dL_law_244 rfl (lv_at hl 1 rfl) ?_
  refine lv_aload_n hx hb dL_law_245 rfl (lv_at hl 0 rfl) ?_
  refine lv_iload hx hb dL_law_246 (lv_at hl 4 rfl) ?_
  refine lv_iconst (v := nI 1) hx hb dL_law_248 (by decide) ?_
  refine zr_iadd hx hb dL_law_249 ?_
  refine zl_sld hx hb hX hbl hbA hS (by omega) (by omega) dL_law_250 ?_
  refine lv_aload_n hx hb dL_law_251 rfl (lv_at hl 0 rfl) ?_
  refine lv_iload hx hb dL_law_252 (lv_at hl 4 rfl) ?_
  refine lv_iconst (v := nI 2) hx hb dL_law_254 (by decide) ?_
  refine zr_iadd hx hb dL_law_255 ?_
  refine zl_sld hx hb hX hbl hbA hS (by omega) (by omega) dL_law_256 ?_
  refine lv_aload_n hx hb dL_law_257 rfl (lv_at hl 3 rfl) ?_
  refine zl_calli (w' := fun u : zl_U => zl_w cA cR cL (zm_w cA mo th k (zk_n k) (zk_t k) F fa fb fc fd) ad o k1 u) hD hS hA (zx_runSW (n := 4) (As := [.ref (ad 0), .int (xs (i + 1)), .int (xs (i + 2)), .ref (o)]) (rest := []) hx hb hml hts hown (hC (zm_w cA mo th k (zk_n k) (zk_t k) F fa fb fc fd) S g H.size) zl_L_78 zs_L_get zo_ValueRingLaw zdL_get (by decide +kernel) rfl rfl ⟨Nat.le_of_ble_eq_true rfl, Nat.le_of_ble_eq_true rfl⟩ (zl_preS hP hK hD hE hS hA) rfl hl.1 rfl (Nat.le_of_ble_eq_true rfl) dL_law_258 hcs) (fun r9 u9 H locs hu hP hD hS => ?_)
  obtain ⟨hr9, hout, hpv⟩ := hu
  subst hr9
  replace hP := zo_rotP hP
  replace hD := zo_rotD hD
  refine lv_istore (lv' := [(5, .int (nI (x))), (0, .ref (b)), (1, .ref (ad 0)), (2, .ref (mo 0)), (3, .ref (o)), (4, .int (nI (i)))]) hx hb dL_law_261 hl (by decide) rfl (fun ls hl => ?_)
  refine lv_aload_n hx hb dL_law_263 rfl (lv_at hl 3 rfl) ?_
  refine lv_aload_n hx hb dL_law_264 rfl (lv_at hl 1 rfl) ?_
  refine lv_iload hx hb dL_law_265 (lv_at hl 5 rfl) ?_
  refine lv_iconst (v := nI 1) hx hb dL_law_267 (by decide) ?_
  refine zr_iadd hx hb dL_law_268 ?_
  refine zl_sld hx hb hX hbl hbA hS (by omega) (by omega) dL_law_269 ?_
  refine lv_aload_n hx hb dL_law_270 rfl (lv_at hl 1 rfl) ?_
  refine lv_iload hx hb dL_law_271 (lv_at hl 5 rfl) ?_
  refine lv_iconst (v := nI 2) hx hb dL_law_273 (by decide) ?_
  refine zr_iadd hx hb dL_law_274 ?_
  refine zl_sld hx hb hX hbl hbA hS (by omega) (by omega) dL_law_275 ?_
  have hM2 := hM [(cR, .array .int), (cL, .long)] (zo_w cA cR cL ad o k1 u9) th fa fb fc fd H.size
  unfold zy_M at hM2
  refine zw_calli (w' := fun u : zq_U => zm_w cA mo x k1 (zk_n k1) (zk_t k1) u.1 u.2.1 u.2.2.1 u.2.2.2.1 u.2.2.2.2 ++ (zo_w cA cR cL ad o k1 u9)) hD hS hA (zx_runV (As := [.int (xs (i + 1)), .int (xs (i + 2))]) (rest := []) hx hb hml hts hown hM2 zv_L_81 rfl rfl ⟨Nat.le_of_ble_eq_true rfl, Nat.le_of_ble_eq_true rfl⟩ (zw_preV (q := (RX1, TM1, 9)) (ci := 1) (q0 := 0) hP hK hD rfl rfl) rfl hl.1 rfl (Nat.le_of_ble_eq_true rfl) dL_law_276 ⟨by show cells + 1 + 0 ≤ 601024; omega, by show slots + 6 + 0 ≤ 7293034; omega⟩) (fun r8 v9 H locs hu hP hD hS => ?_)
  obtain ⟨hr8, hpf⟩ := hu
  subst hr8
  refine lv_istore (lv' := [(6, .int (r8)), (5, .int (nI (x))), (0, .ref (b)), (1, .ref (ad 0)), (2, .ref (mo 0)), (3, .ref (o)), (4, .int (nI (i)))]) hx hb dL_law_279 hl (by decide) rfl (fun ls hl => ?_)
  refine lv_aload_n hx hb dL_law_281 rfl (lv_at hl 4 rfl) ?_
  refine zr_callq (zx_runV (As := []) (rest := []) hx hb hml hts hown (cm_thrown l dC dI cA [(cR, .array .int), (cL, .long)] (zo_w cA cR cL ad o k1 u9) mo x k1 v9.1 v9.2.1 v9.2.2.1 v9.2.2.2.1 v9.2.2.2.2 hk1) zv_L_70 rfl rfl ⟨Nat.le_of_ble_eq_true rfl, Nat.le_of_ble_eq_true rfl⟩ (zr_preV (q := (RX1, TM1, 9)) (ci := 1) (q0 := 0) hP hK rfl rfl) rfl hl.1 rfl (Nat.le_of_ble_eq_true rfl) dL_law_282 ⟨by show cells + 1 + 0 ≤ 601024; omega, by show slots + 6 + 0 ≤ 7293034; omega⟩) ?_
  refine lv_iload hx hb dL_law_285 (lv_at hl 1 rfl) ?_
  refine zr_ieq (tgt := 292) hx hb dL_law_287 (by decide) (by omega) (by omega) (fun _ => ?_) (fun hno9 => absurd hno9 (by omega))
  refine lv_iload hx hb dL_law_292 (lv_at hl 1 rfl) ?_
  refine zr_ifne (tgt := 309) hx hb dL_law_294 (by decide) (by omega) (fun hx0 => ?_) (fun hx0 => ?_)
  · refine lv_goto (tgt := 1078) hx hb dL_law_309 (by decide) ?_
    exact kk k1 x u9 v9.1 v9.2.1 v9.2.2.1 v9.2.2.2.1 v9.2.2.2.2 H locs ls hk1 (hrel _ _ _ hpv hpf) (zo_bakP hP) (zo_bakD hD) hS (lv_sub hl [2, 3, 4, 5, 6] rfl)
  · refine lv_aload_n hx hb dL_law_297 rfl (lv_at hl 5 rfl) ?_
    refine lv_iconst (v := nI 0) hx hb dL_law_298 (by decide) ?_
    refine zl_lald (x := a) hx hb hK hP 26 2 rfl rfl (hout hx0) dL_law_299 ?_
    refine lv_iload hx hb dL_law_300 (lv_at hl 0 rfl) ?_
    refine lv_i2l (v := r8.toInt64) hx hb dL_law_302 rfl ?_
    refine zl_leq (tgt := 309) hx hb (hra hx0).symm dL_law_303 dL_law_304 (by decide) ?_
    refine lv_goto (tgt := 1078) hx hb dL_law_309 (by decide) ?_
    exact kk k1 x u9 v9.1 v9.2.1 v9.2.2.1 v9.2.2.2.1 v9.2.2.2.2 H locs ls hk1 (hrel _ _ _ hpv hpf) (zo_bakP hP) (zo_bakD hD) hS (lv_sub hl [2, 3, 4, 5, 6] rfl)
set_option maxHeartbeats 4000000 in
set_option maxRecDepth 100000 in
theorem lo_setValue {p : Program} {l : Launch} {e : Env} {s : State} {m : MethodId} {below : List Frame} {meth : Method} {c : Code} {H : Heap} {locs : List Loc} {cells slots : Nat} {Q : State → Prop} {ls : Array Slot} {b L i : Nat} {xs : Nat → Int32} {dC : Nat → ClassId} {dI : Nat → Nat → Nat} {cA cR cL : ClassId} {mo ad : Nat → Nat} {o k th : Nat} {S : Nat → Int32} {P : Nat → Nat} {V : Nat → Nat → Nat} {g : Nat → Int64} {F fa fb fc fd : Nat → Nat} (C : zo_C p l s m meth c b L xs dC dI cA cR cL) (hk : k < 4) (hR : zy_R k P V F) (hi : i + 5 ≤ L) (hL : L ≤ 2560) (hcs : cells + 1 ≤ 601024 ∧ slots + 6 ≤ 7293034)
    (hP : va_P (dC, dI) zz_cl (zl_w cA cR cL (zm_w cA mo th k (zk_n k) (zk_t k) F fa fb fc fd) ad o k ((S, P, V, g))) H) (hD : va_D (fun q : Nat => s.heap.size ≤ q) (zl_w cA cR cL (zm_w cA mo th k (zk_n k) (zk_t k) F fa fb fc fd) ad o k ((S, P, V, g)))) (hS : va_S (fun q : Nat => s.heap.size ≤ q) s.heap H locs) (hl : lv_has ls 8 [(0, .ref b), (1, .ref (ad 0)), (2, .ref (mo 0)), (3, .ref o), (4, .int (nI i))]) (kk : zo_K p l e s m below meth c cells slots Q b i dC dI cA cR cL mo ad o) : W p l e room_1 s m #[Value.ref b] below meth c H locs cells slots Q (F0 m 312 ls []) := by
  obtain ⟨hx, hb, hml, hown, hts, hX, hbl, hK, hE, hlt9⟩ := C
  have hA : ∀ q : Nat, s.heap.size ≤ q → (fun q : Nat => s.heap.size ≤ q) q := fun q h => h
  have hbA : ¬ (fun q : Nat => s.heap.size ≤ q) b := fun h => absurd hbl (Nat.not_lt.mpr h)
  obtain ⟨x, a, r0, k1, pv, pf, hC, hM, hx4, hk1, hra, hrel⟩ := st_setValue l hlt9 dC dI cA cR cL [] mo ad o k hk P V F hR (xs (i + 1)) (xs (i + 2)) (xs (i + 3))
  refine lv_aload_n hx hb dL_law_312 rfl (lv_at hl 1 rfl) ?_
  refine lv_aload_n hx hb dL_law_313 rfl (lv_at hl 0 rfl) ?_
  refine lv_iload hx hb dL_law_314 (lv_at hl 4 rfl) ?_
  refine lv_iconst (v := nI 1) hx hb dL_law_316 (by decide) ?_
  refine zr_iadd hx hb dL_law_317 ?_
  refine zl_sld hx hb hX hbl hbA hS (by omega) (by omega) dL_law_318 ?_
  refine lv_aload_n hx hb dL_law_319 rfl (lv_at hl 0 rfl) ?_
  refine lv_iload hx hb dL_law_320 (lv_at hl 4 rfl) ?_
  refine lv_iconst (v := nI 2) hx hb dL_law_322 (by decide) ?_
  refine zr_iadd hx hb dL_law_323 ?_
  refine zl_sld hx hb hX hbl hbA hS (by omega) (by omega) dL_law_324 ?_
  refine lv_aload_n hx hb dL_law_325 rfl (lv_at hl 0 rfl) ?_
  refine lv_iload hx hb dL_law_326 (lv_at hl 4 rfl) ?_
  refine lv_iconst (v := nI 3) hx hb dL_law_328 (by decide) ?_
  refine zr_iadd hx hb dL_law_329 ?_
  refine zl_sld hx hb hX hbl hbA hS (by omega) (by omega) dL_law_330 ?_
  refine lv_aload_n hx hb dL_law_331 rfl (lv_at hl 3 rfl) ?_
  refine zl_calli (w' := fun u : zl_U => zl_w cA cR cL (zm_w cA mo th k (zk_n k) (zk_t k) F fa fb fc fd) ad o k1 u) hD hS hA (zx_runSW (n := 5) (As := [.ref (ad 0), .int (xs (i + 1)), .int (xs (i + 2)), .int (xs (i + 3)), .ref (o)]) (rest := []) hx hb hml hts hown (hC (zm_w cA mo th k (zk_n k) (zk_t k) F fa fb fc fd) S g H.size) zl_L_82 zs_L_setValue zo_ValueRingLaw zdL_setValue (by decide +kernel) rfl rfl ⟨Nat.le_of_ble_eq_true rfl, Nat.le_of_ble_eq_true rfl⟩ (zl_preS hP hK hD hE hS hA) rfl hl.1 rfl (Nat.le_of_ble_eq_true rfl) dL_law_332 hcs) (fun r9 u9 H locs hu hP hD hS => ?_)
  obtain ⟨hr9, hout, hpv⟩ := hu
  subst hr9
  replace hP := zo_rotP hP
  replace hD := zo_rotD hD
  refine lv_istore (lv' := [(5, .int (nI (x))), (0, .ref (b)), (1, .ref (ad 0)), (2, .ref (mo 0)), (3, .ref (o)), (4, .int (nI (i)))]) hx hb dL_law_335 hl (by decide) rfl (fun ls hl => ?_)
  refine lv_aload_n hx hb dL_law_337 rfl (lv_at hl 3 rfl) ?_
  refine lv_aload_n hx hb dL_law_338 rfl (lv_at hl 1 rfl) ?_
  refine lv_iload hx hb dL_law_339 (lv_at hl 5 rfl) ?_
  refine lv_iconst (v := nI 1) hx hb dL_law_341 (by decide) ?_
  refine zr_iadd hx hb dL_law_342 ?_
  refine zl_sld hx hb hX hbl hbA hS (by omega) (by omega) dL_law_343 ?_
  refine lv_aload_n hx hb dL_law_344 rfl (lv_at hl 1 rfl) ?_
  refine lv_iload hx hb dL_law_345 (lv_at hl 5 rfl) ?_
  refine lv_iconst (v := nI 2) hx hb dL_law_347 (by decide) ?_
  refine zr_iadd hx hb dL_law_348 ?_
  refine zl_sld hx hb hX hbl hbA hS (by omega) (by omega) dL_law_349 ?_
  refine lv_aload_n hx hb dL_law_350 rfl (lv_at hl 1 rfl) ?_
  refine lv_iload hx hb dL_law_351 (lv_at hl 5 rfl) ?_
  refine lv_iconst (v := nI 3) hx hb dL_law_353 (by decide) ?_
  refine zr_iadd hx hb dL_law_354 ?_
  refine zl_sld hx hb hX hbl hbA hS (by omega) (by omega) dL_law_355 ?_
  have hM2 := hM [(cR, .array .int), (cL, .long)] (zo_w cA cR cL ad o k1 u9) th fa fb fc fd H.size
  unfold zy_M at hM2
  refine zw_calli (w' := fun u : zq_U => zm_w cA mo x k1 (zk_n k1) (zk_t k1) u.1 u.2.1 u.2.2.1 u.2.2.2.1 u.2.2.2.2 ++ (zo_w cA cR cL ad o k1 u9)) hD hS hA (zx_runV (As := [.int (xs (i + 1)), .int (xs (i + 2)), .int (xs (i + 3))]) (rest := []) hx hb hml hts hown hM2 zv_L_84 rfl rfl ⟨Nat.le_of_ble_eq_true rfl, Nat.le_of_ble_eq_true rfl⟩ (zw_preV (q := (RX1, TM1, 9)) (ci := 1) (q0 := 0) hP hK hD rfl rfl) rfl hl.1 rfl (Nat.le_of_ble_eq_true rfl) dL_law_356 ⟨by show cells + 1 + 0 ≤ 601024; omega, by show slots + 6 + 0 ≤ 7293034; omega⟩) (fun r8 v9 H locs hu hP hD hS => ?_)
  obtain ⟨hr8, hpf⟩ := hu
  subst hr8
  refine lv_istore (lv' := [(6, .int (r8)), (5, .int (nI (x))), (0, .ref (b)), (1, .ref (ad 0)), (2, .ref (mo 0)), (3, .ref (o)), (4, .int (nI (i)))]) hx hb dL_law_359 hl (by decide) rfl (fun ls hl => ?_)
  refine lv_aload_n hx hb dL_law_361 rfl (lv_at hl 4 rfl) ?_
  refine zr_callq (zx_runV (As := []) (rest := []) hx hb hml hts hown (cm_thrown l dC dI cA [(cR, .array .int), (cL, .long)] (zo_w cA cR cL ad o k1 u9) mo x k1 v9.1 v9.2.1 v9.2.2.1 v9.2.2.2.1 v9.2.2.2.2 hk1) zv_L_70 rfl rfl ⟨Nat.le_of_ble_eq_true rfl, Nat.le_of_ble_eq_true rfl⟩ (zr_preV (q := (RX1, TM1, 9)) (ci := 1) (q0 := 0) hP hK rfl rfl) rfl hl.1 rfl (Nat.le_of_ble_eq_true rfl) dL_law_362 ⟨by show cells + 1 + 0 ≤ 601024; omega, by show slots + 6 + 0 ≤ 7293034; omega⟩) ?_
  refine lv_iload hx hb dL_law_365 (lv_at hl 1 rfl) ?_
  refine zr_ieq (tgt := 372) hx hb dL_law_367 (by decide) (by omega) (by omega) (fun _ => ?_) (fun hno9 => absurd hno9 (by omega))
  refine lv_iload hx hb dL_law_372 (lv_at hl 1 rfl) ?_
  refine zr_ifne (tgt := 389) hx hb dL_law_374 (by decide) (by omega) (fun hx0 => ?_) (fun hx0 => ?_)
  · refine lv_goto (tgt := 1078) hx hb dL_law_389 (by decide) ?_
    exact kk k1 x u9 v9.1 v9.2.1 v9.2.2.1 v9.2.2.2.1 v9.2.2.2.2 H locs ls hk1 (hrel _ _ _ hpv hpf) (zo_bakP hP) (zo_bakD hD) hS (lv_sub hl [2, 3, 4, 5, 6] rfl)
  · refine lv_aload_n hx hb dL_law_377 rfl (lv_at hl 5 rfl) ?_
    refine lv_iconst (v := nI 0) hx hb dL_law_378 (by decide) ?_
    refine zl_lald (x := a) hx hb hK hP 26 2 rfl rfl (hout hx0) dL_law_379 ?_
    refine lv_iload hx hb dL_law_380 (lv_at hl 0 rfl) ?_
    refine lv_i2l (v := r8.toInt64) hx hb dL_law_382 rfl ?_
    refine zl_leq (tgt := 389) hx hb (hra hx0).symm dL_law_383 dL_law_384 (by decide) ?_
    refine lv_goto (tgt := 1078) hx hb dL_law_389 (by decide) ?_
    exact kk k1 x u9 v9.1 v9.2.1 v9.2.2.1 v9.2.2.2.1 v9.2.2.2.2 H locs ls hk1 (hrel _ _ _ hpv hpf) (zo_bakP hP) (zo_bakD hD) hS (lv_sub hl [2, 3, 4, 5, 6] rfl)
set_option maxHeartbeats 4000000 in
set_option maxRecDepth 100000 in
theorem lo_value {p : Program} {l : Launch} {e : Env} {s : State} {m : MethodId} {below : List Frame} {meth : Method} {c : Code} {H : Heap} {locs : List Loc} {cells slots : Nat} {Q : State → Prop} {ls : Array Slot} {b L i : Nat} {xs : Nat → Int32} {dC : Nat → ClassId} {dI : Nat → Nat → Nat} {cA cR cL : ClassId} {mo ad : Nat → Nat} {o k th : Nat} {S : Nat → Int32} {P : Nat → Nat} {V : Nat → Nat → Nat} {g : Nat → Int64} {F fa fb fc fd : Nat → Nat} (C : zo_C p l s m meth c b L xs dC dI cA cR cL) (hk : k < 4) (hR : zy_R k P V F) (hi : i + 5 ≤ L) (hL : L ≤ 2560) (hcs : cells + 1 ≤ 601024 ∧ slots + 6 ≤ 7293034)
    (hP : va_P (dC, dI) zz_cl (zl_w cA cR cL (zm_w cA mo th k (zk_n k) (zk_t k) F fa fb fc fd) ad o k ((S, P, V, g))) H) (hD : va_D (fun q : Nat => s.heap.size ≤ q) (zl_w cA cR cL (zm_w cA mo th k (zk_n k) (zk_t k) F fa fb fc fd) ad o k ((S, P, V, g)))) (hS : va_S (fun q : Nat => s.heap.size ≤ q) s.heap H locs) (hl : lv_has ls 8 [(0, .ref b), (1, .ref (ad 0)), (2, .ref (mo 0)), (3, .ref o), (4, .int (nI i))]) (kk : zo_K p l e s m below meth c cells slots Q b i dC dI cA cR cL mo ad o) : W p l e room_1 s m #[Value.ref b] below meth c H locs cells slots Q (F0 m 392 ls []) := by
  obtain ⟨hx, hb, hml, hown, hts, hX, hbl, hK, hE, hlt9⟩ := C
  have hA : ∀ q : Nat, s.heap.size ≤ q → (fun q : Nat => s.heap.size ≤ q) q := fun q h => h
  have hbA : ¬ (fun q : Nat => s.heap.size ≤ q) b := fun h => absurd hbl (Nat.not_lt.mpr h)
  obtain ⟨x, a, r0, k1, pv, pf, hC, hM, hx4, hk1, hra, hrel⟩ := st_value l hlt9 dC dI cA cR cL [] mo ad o k hk P V F hR (xs (i + 1)) (xs (i + 2))
  refine lv_aload_n hx hb dL_law_392 rfl (lv_at hl 1 rfl) ?_
  refine lv_aload_n hx hb dL_law_393 rfl (lv_at hl 0 rfl) ?_
  refine lv_iload hx hb dL_law_394 (lv_at hl 4 rfl) ?_
  refine lv_iconst (v := nI 1) hx hb dL_law_396 (by decide) ?_
  refine zr_iadd hx hb dL_law_397 ?_
  refine zl_sld hx hb hX hbl hbA hS (by omega) (by omega) dL_law_398 ?_
  refine lv_aload_n hx hb dL_law_399 rfl (lv_at hl 0 rfl) ?_
  refine lv_iload hx hb dL_law_400 (lv_at hl 4 rfl) ?_
  refine lv_iconst (v := nI 2) hx hb dL_law_402 (by decide) ?_
  refine zr_iadd hx hb dL_law_403 ?_
  refine zl_sld hx hb hX hbl hbA hS (by omega) (by omega) dL_law_404 ?_
  refine lv_aload_n hx hb dL_law_405 rfl (lv_at hl 3 rfl) ?_
  refine zl_calli (w' := fun u : zl_U => zl_w cA cR cL (zm_w cA mo th k (zk_n k) (zk_t k) F fa fb fc fd) ad o k1 u) hD hS hA (zx_runSW (n := 4) (As := [.ref (ad 0), .int (xs (i + 1)), .int (xs (i + 2)), .ref (o)]) (rest := []) hx hb hml hts hown (hC (zm_w cA mo th k (zk_n k) (zk_t k) F fa fb fc fd) S g H.size) zl_L_85 zs_L_value zo_ValueRingLaw zdL_value (by decide +kernel) rfl rfl ⟨Nat.le_of_ble_eq_true rfl, Nat.le_of_ble_eq_true rfl⟩ (zl_preS hP hK hD hE hS hA) rfl hl.1 rfl (Nat.le_of_ble_eq_true rfl) dL_law_406 hcs) (fun r9 u9 H locs hu hP hD hS => ?_)
  obtain ⟨hr9, hout, hpv⟩ := hu
  subst hr9
  replace hP := zo_rotP hP
  replace hD := zo_rotD hD
  refine lv_istore (lv' := [(5, .int (nI (x))), (0, .ref (b)), (1, .ref (ad 0)), (2, .ref (mo 0)), (3, .ref (o)), (4, .int (nI (i)))]) hx hb dL_law_409 hl (by decide) rfl (fun ls hl => ?_)
  refine lv_aload_n hx hb dL_law_411 rfl (lv_at hl 3 rfl) ?_
  refine lv_aload_n hx hb dL_law_412 rfl (lv_at hl 1 rfl) ?_
  refine lv_iload hx hb dL_law_413 (lv_at hl 5 rfl) ?_
  refine lv_iconst (v := nI 1) hx hb dL_law_415 (by decide) ?_
  refine zr_iadd hx hb dL_law_416 ?_
  refine zl_sld hx hb hX hbl hbA hS (by omega) (by omega) dL_law_417 ?_
  refine lv_aload_n hx hb dL_law_418 rfl (lv_at hl 1 rfl) ?_
  refine lv_iload hx hb dL_law_419 (lv_at hl 5 rfl) ?_
  refine lv_iconst (v := nI 2) hx hb dL_law_421 (by decide) ?_
  refine zr_iadd hx hb dL_law_422 ?_
  refine zl_sld hx hb hX hbl hbA hS (by omega) (by omega) dL_law_423 ?_
  have hM2 := hM [(cR, .array .int), (cL, .long)] (zo_w cA cR cL ad o k1 u9) th fa fb fc fd H.size
  unfold zy_M at hM2
  refine zw_calli (w' := fun u : zq_U => zm_w cA mo x k1 (zk_n k1) (zk_t k1) u.1 u.2.1 u.2.2.1 u.2.2.2.1 u.2.2.2.2 ++ (zo_w cA cR cL ad o k1 u9)) hD hS hA (zx_runV (As := [.int (xs (i + 1)), .int (xs (i + 2))]) (rest := []) hx hb hml hts hown hM2 zv_L_87 rfl rfl ⟨Nat.le_of_ble_eq_true rfl, Nat.le_of_ble_eq_true rfl⟩ (zw_preV (q := (RX1, TM1, 9)) (ci := 1) (q0 := 0) hP hK hD rfl rfl) rfl hl.1 rfl (Nat.le_of_ble_eq_true rfl) dL_law_424 ⟨by show cells + 1 + 0 ≤ 601024; omega, by show slots + 6 + 0 ≤ 7293034; omega⟩) (fun r8 v9 H locs hu hP hD hS => ?_)
  obtain ⟨hr8, hpf⟩ := hu
  subst hr8
  refine lv_istore (lv' := [(6, .int (r8)), (5, .int (nI (x))), (0, .ref (b)), (1, .ref (ad 0)), (2, .ref (mo 0)), (3, .ref (o)), (4, .int (nI (i)))]) hx hb dL_law_427 hl (by decide) rfl (fun ls hl => ?_)
  refine lv_aload_n hx hb dL_law_429 rfl (lv_at hl 4 rfl) ?_
  refine zr_callq (zx_runV (As := []) (rest := []) hx hb hml hts hown (cm_thrown l dC dI cA [(cR, .array .int), (cL, .long)] (zo_w cA cR cL ad o k1 u9) mo x k1 v9.1 v9.2.1 v9.2.2.1 v9.2.2.2.1 v9.2.2.2.2 hk1) zv_L_70 rfl rfl ⟨Nat.le_of_ble_eq_true rfl, Nat.le_of_ble_eq_true rfl⟩ (zr_preV (q := (RX1, TM1, 9)) (ci := 1) (q0 := 0) hP hK rfl rfl) rfl hl.1 rfl (Nat.le_of_ble_eq_true rfl) dL_law_430 ⟨by show cells + 1 + 0 ≤ 601024; omega, by show slots + 6 + 0 ≤ 7293034; omega⟩) ?_
  refine lv_iload hx hb dL_law_433 (lv_at hl 1 rfl) ?_
  refine zr_ieq (tgt := 440) hx hb dL_law_435 (by decide) (by omega) (by omega) (fun _ => ?_) (fun hno9 => absurd hno9 (by omega))
  refine lv_iload hx hb dL_law_440 (lv_at hl 1 rfl) ?_
  refine zr_ifne (tgt := 457) hx hb dL_law_442 (by decide) (by omega) (fun hx0 => ?_) (fun hx0 => ?_)
  · refine lv_goto (tgt := 1078) hx hb dL_law_457 (by decide) ?_
    exact kk k1 x u9 v9.1 v9.2.1 v9.2.2.1 v9.2.2.2.1 v9.2.2.2.2 H locs ls hk1 (hrel _ _ _ hpv hpf) (zo_bakP hP) (zo_bakD hD) hS (lv_sub hl [2, 3, 4, 5, 6] rfl)
  · refine lv_aload_n hx hb dL_law_445 rfl (lv_at hl 5 rfl) ?_
    refine lv_iconst (v := nI 0) hx hb dL_law_446 (by decide) ?_
    refine zl_lald (x := a) hx hb hK hP 26 2 rfl rfl (hout hx0) dL_law_447 ?_
    refine lv_iload hx hb dL_law_448 (lv_at hl 0 rfl) ?_
    refine lv_i2l (v := r8.toInt64) hx hb dL_law_450 rfl ?_
    refine zl_leq (tgt := 457) hx hb (hra hx0).symm dL_law_451 dL_law_452 (by decide) ?_
    refine lv_goto (tgt := 1078) hx hb dL_law_457 (by decide) ?_
    exact kk k1 x u9 v9.1 v9.2.1 v9.2.2.1 v9.2.2.2.1 v9.2.2.2.2 H locs ls hk1 (hrel _ _ _ hpv hpf) (zo_bakP hP) (zo_bakD hD) hS (lv_sub hl [2, 3, 4, 5, 6] rfl)
set_option maxHeartbeats 4000000 in
set_option maxRecDepth 100000 in
theorem lo_join {p : Program} {l : Launch} {e : Env} {s : State} {m : MethodId} {below : List Frame} {meth : Method} {c : Code} {H : Heap} {locs : List Loc} {cells slots : Nat} {Q : State → Prop} {ls : Array Slot} {b L i : Nat} {xs : Nat → Int32} {dC : Nat → ClassId} {dI : Nat → Nat → Nat} {cA cR cL : ClassId} {mo ad : Nat → Nat} {o k th : Nat} {S : Nat → Int32} {P : Nat → Nat} {V : Nat → Nat → Nat} {g : Nat → Int64} {F fa fb fc fd : Nat → Nat} (C : zo_C p l s m meth c b L xs dC dI cA cR cL) (hk : k < 4) (hR : zy_R k P V F) (hi : i + 5 ≤ L) (hL : L ≤ 2560) (hcs : cells + 1 ≤ 601024 ∧ slots + 6 ≤ 7293034)
    (hP : va_P (dC, dI) zz_cl (zl_w cA cR cL (zm_w cA mo th k (zk_n k) (zk_t k) F fa fb fc fd) ad o k ((S, P, V, g))) H) (hD : va_D (fun q : Nat => s.heap.size ≤ q) (zl_w cA cR cL (zm_w cA mo th k (zk_n k) (zk_t k) F fa fb fc fd) ad o k ((S, P, V, g)))) (hS : va_S (fun q : Nat => s.heap.size ≤ q) s.heap H locs) (hl : lv_has ls 8 [(0, .ref b), (1, .ref (ad 0)), (2, .ref (mo 0)), (3, .ref o), (4, .int (nI i))]) (kk : zo_K p l e s m below meth c cells slots Q b i dC dI cA cR cL mo ad o) : W p l e room_1 s m #[Value.ref b] below meth c H locs cells slots Q (F0 m 460 ls []) := by
  obtain ⟨hx, hb, hml, hown, hts, hX, hbl, hK, hE, hlt9⟩ := C
  have hA : ∀ q : Nat, s.heap.size ≤ q → (fun q : Nat => s.heap.size ≤ q) q := fun q h => h
  have hbA : ¬ (fun q : Nat => s.heap.size ≤ q) b := fun h => absurd hbl (Nat.not_lt.mpr h)
  obtain ⟨x, a, r0, k1, pv, pf, hC, hM, hx4, hk1, hra, hrel⟩ := st_join l hlt9 dC dI cA cR cL [] mo ad o k hk P V F hR (xs (i + 1)) (xs (i + 2)) (xs (i + 3)) (xs (i + 4))
  refine lv_aload_n hx hb dL_law_460 rfl (lv_at hl 1 rfl) ?_
  refine lv_aload_n hx hb dL_law_461 rfl (lv_at hl 0 rfl) ?_
  refine lv_iload hx hb dL_law_462 (lv_at hl 4 rfl) ?_
  refine lv_iconst (v := nI 1) hx hb dL_law_464 (by decide) ?_
  refine zr_iadd hx hb dL_law_465 ?_
  refine zl_sld hx hb hX hbl hbA hS (by omega) (by omega) dL_law_466 ?_
  refine lv_aload_n hx hb dL_law_467 rfl (lv_at hl 0 rfl) ?_
  refine lv_iload hx hb dL_law_468 (lv_at hl 4 rfl) ?_
  refine lv_iconst (v := nI 2) hx hb dL_law_470 (by decide) ?_
  refine zr_iadd hx hb dL_law_471 ?_
  refine zl_sld hx hb hX hbl hbA hS (by omega) (by omega) dL_law_472 ?_
  refine lv_aload_n hx hb dL_law_473 rfl (lv_at hl 0 rfl) ?_
  refine lv_iload hx hb dL_law_474 (lv_at hl 4 rfl) ?_
  refine lv_iconst (v := nI 3) hx hb dL_law_476 (by decide) ?_
  refine zr_iadd hx hb dL_law_477 ?_
  refine zl_sld hx hb hX hbl hbA hS (by omega) (by omega) dL_law_478 ?_
  refine lv_aload_n hx hb dL_law_479 rfl (lv_at hl 0 rfl) ?_
  refine lv_iload hx hb dL_law_480 (lv_at hl 4 rfl) ?_
  refine lv_iconst (v := nI 4) hx hb dL_law_482 (by decide) ?_
  refine zr_iadd hx hb dL_law_483 ?_
  refine zl_sld hx hb hX hbl hbA hS (by omega) (by omega) dL_law_484 ?_
  refine lv_aload_n hx hb dL_law_485 rfl (lv_at hl 3 rfl) ?_
  refine zl_calli (w' := fun u : zl_U => zl_w cA cR cL (zm_w cA mo th k (zk_n k) (zk_t k) F fa fb fc fd) ad o k1 u) hD hS hA (zx_runSW (n := 6) (As := [.ref (ad 0), .int (xs (i + 1)), .int (xs (i + 2)), .int (xs (i + 3)), .int (xs (i + 4)), .ref (o)]) (rest := []) hx hb hml hts hown (hC (zm_w cA mo th k (zk_n k) (zk_t k) F fa fb fc fd) S g H.size) zl_L_88 zs_L_join zo_ValueRingLaw zdL_join (by decide +kernel) rfl rfl ⟨Nat.le_of_ble_eq_true rfl, Nat.le_of_ble_eq_true rfl⟩ (zl_preS hP hK hD hE hS hA) rfl hl.1 rfl (Nat.le_of_ble_eq_true rfl) dL_law_486 hcs) (fun r9 u9 H locs hu hP hD hS => ?_)
  obtain ⟨hr9, hout, hpv⟩ := hu
  subst hr9
  replace hP := zo_rotP hP
  replace hD := zo_rotD hD
  refine lv_istore (lv' := [(5, .int (nI (x))), (0, .ref (b)), (1, .ref (ad 0)), (2, .ref (mo 0)), (3, .ref (o)), (4, .int (nI (i)))]) hx hb dL_law_489 hl (by decide) rfl (fun ls hl => ?_)
  refine lv_aload_n hx hb dL_law_491 rfl (lv_at hl 3 rfl) ?_
  refine lv_aload_n hx hb dL_law_492 rfl (lv_at hl 1 rfl) ?_
  refine lv_iload hx hb dL_law_493 (lv_at hl 5 rfl) ?_
  refine lv_iconst (v := nI 1) hx hb dL_law_495 (by decide) ?_
  refine zr_iadd hx hb dL_law_496 ?_
  refine zl_sld hx hb hX hbl hbA hS (by omega) (by omega) dL_law_497 ?_
  refine lv_aload_n hx hb dL_law_498 rfl (lv_at hl 1 rfl) ?_
  refine lv_iload hx hb dL_law_499 (lv_at hl 5 rfl) ?_
  refine lv_iconst (v := nI 2) hx hb dL_law_501 (by decide) ?_
  refine zr_iadd hx hb dL_law_502 ?_
  refine zl_sld hx hb hX hbl hbA hS (by omega) (by omega) dL_law_503 ?_
  refine lv_aload_n hx hb dL_law_504 rfl (lv_at hl 1 rfl) ?_
  refine lv_iload hx hb dL_law_505 (lv_at hl 5 rfl) ?_
  refine lv_iconst (v := nI 3) hx hb dL_law_507 (by decide) ?_
  refine zr_iadd hx hb dL_law_508 ?_
  refine zl_sld hx hb hX hbl hbA hS (by omega) (by omega) dL_law_509 ?_
  refine lv_aload_n hx hb dL_law_510 rfl (lv_at hl 1 rfl) ?_
  refine lv_iload hx hb dL_law_511 (lv_at hl 5 rfl) ?_
  refine lv_iconst (v := nI 4) hx hb dL_law_513 (by decide) ?_
  refine zr_iadd hx hb dL_law_514 ?_
  refine zl_sld hx hb hX hbl hbA hS (by omega) (by omega) dL_law_515 ?_
  have hM2 := hM [(cR, .array .int), (cL, .long)] (zo_w cA cR cL ad o k1 u9) th fa fb fc fd H.size
  unfold zy_M at hM2
  refine zw_calli (w' := fun u : zq_U => zm_w cA mo x k1 (zk_n k1) (zk_t k1) u.1 u.2.1 u.2.2.1 u.2.2.2.1 u.2.2.2.2 ++ (zo_w cA cR cL ad o k1 u9)) hD hS hA (zx_runV (As := [.int (xs (i + 1)), .int (xs (i + 2)), .int (xs (i + 3)), .int (xs (i + 4))]) (rest := []) hx hb hml hts hown hM2 zv_L_91 rfl rfl ⟨Nat.le_of_ble_eq_true rfl, Nat.le_of_ble_eq_true rfl⟩ (zw_preV (q := (RX1, TM1, 9)) (ci := 1) (q0 := 0) hP hK hD rfl rfl) rfl hl.1 rfl (Nat.le_of_ble_eq_true rfl) dL_law_516 ⟨by show cells + 1 + 0 ≤ 601024; omega, by show slots + 6 + 0 ≤ 7293034; omega⟩) (fun r8 v9 H locs hu hP hD hS => ?_)
  obtain ⟨hr8, hpf⟩ := hu
  subst hr8
  refine lv_istore (lv' := [(6, .int (r8)), (5, .int (nI (x))), (0, .ref (b)), (1, .ref (ad 0)), (2, .ref (mo 0)), (3, .ref (o)), (4, .int (nI (i)))]) hx hb dL_law_519 hl (by decide) rfl (fun ls hl => ?_)
  refine lv_aload_n hx hb dL_law_521 rfl (lv_at hl 4 rfl) ?_
  refine zr_callq (zx_runV (As := []) (rest := []) hx hb hml hts hown (cm_thrown l dC dI cA [(cR, .array .int), (cL, .long)] (zo_w cA cR cL ad o k1 u9) mo x k1 v9.1 v9.2.1 v9.2.2.1 v9.2.2.2.1 v9.2.2.2.2 hk1) zv_L_70 rfl rfl ⟨Nat.le_of_ble_eq_true rfl, Nat.le_of_ble_eq_true rfl⟩ (zr_preV (q := (RX1, TM1, 9)) (ci := 1) (q0 := 0) hP hK rfl rfl) rfl hl.1 rfl (Nat.le_of_ble_eq_true rfl) dL_law_522 ⟨by show cells + 1 + 0 ≤ 601024; omega, by show slots + 6 + 0 ≤ 7293034; omega⟩) ?_
  refine lv_iload hx hb dL_law_525 (lv_at hl 1 rfl) ?_
  refine zr_ieq (tgt := 532) hx hb dL_law_527 (by decide) (by omega) (by omega) (fun _ => ?_) (fun hno9 => absurd hno9 (by omega))
  refine lv_iload hx hb dL_law_532 (lv_at hl 1 rfl) ?_
  refine zr_ifne (tgt := 549) hx hb dL_law_534 (by decide) (by omega) (fun hx0 => ?_) (fun hx0 => ?_)
  · refine lv_goto (tgt := 1078) hx hb dL_law_549 (by decide) ?_
    exact kk k1 x u9 v9.1 v9.2.1 v9.2.2.1 v9.2.2.2.1 v9.2.2.2.2 H locs ls hk1 (hrel _ _ _ hpv hpf) (zo_bakP hP) (zo_bakD hD) hS (lv_sub hl [2, 3, 4, 5, 6] rfl)
  · refine lv_aload_n hx hb dL_law_537 rfl (lv_at hl 5 rfl) ?_
    refine lv_iconst (v := nI 0) hx hb dL_law_538 (by decide) ?_
    refine zl_lald (x := a) hx hb hK hP 26 2 rfl rfl (hout hx0) dL_law_539 ?_
    refine lv_iload hx hb dL_law_540 (lv_at hl 0 rfl) ?_
    refine lv_i2l (v := r8.toInt64) hx hb dL_law_542 rfl ?_
    refine zl_leq (tgt := 549) hx hb (hra hx0).symm dL_law_543 dL_law_544 (by decide) ?_
    refine lv_goto (tgt := 1078) hx hb dL_law_549 (by decide) ?_
    exact kk k1 x u9 v9.1 v9.2.1 v9.2.2.1 v9.2.2.2.1 v9.2.2.2.2 H locs ls hk1 (hrel _ _ _ hpv hpf) (zo_bakP hP) (zo_bakD hD) hS (lv_sub hl [2, 3, 4, 5, 6] rfl)
set_option maxHeartbeats 4000000 in
set_option maxRecDepth 100000 in
theorem lo_turn {p : Program} {l : Launch} {e : Env} {s : State} {m : MethodId} {below : List Frame} {meth : Method} {c : Code} {H : Heap} {locs : List Loc} {cells slots : Nat} {Q : State → Prop} {ls : Array Slot} {b L i : Nat} {xs : Nat → Int32} {dC : Nat → ClassId} {dI : Nat → Nat → Nat} {cA cR cL : ClassId} {mo ad : Nat → Nat} {o k th : Nat} {S : Nat → Int32} {P : Nat → Nat} {V : Nat → Nat → Nat} {g : Nat → Int64} {F fa fb fc fd : Nat → Nat} (C : zo_C p l s m meth c b L xs dC dI cA cR cL) (hk : k < 4) (hR : zy_R k P V F) (hi : i + 5 ≤ L) (hL : L ≤ 2560) (hcs : cells + 1 ≤ 601024 ∧ slots + 6 ≤ 7293034)
    (hP : va_P (dC, dI) zz_cl (zl_w cA cR cL (zm_w cA mo th k (zk_n k) (zk_t k) F fa fb fc fd) ad o k ((S, P, V, g))) H) (hD : va_D (fun q : Nat => s.heap.size ≤ q) (zl_w cA cR cL (zm_w cA mo th k (zk_n k) (zk_t k) F fa fb fc fd) ad o k ((S, P, V, g)))) (hS : va_S (fun q : Nat => s.heap.size ≤ q) s.heap H locs) (hl : lv_has ls 8 [(0, .ref b), (1, .ref (ad 0)), (2, .ref (mo 0)), (3, .ref o), (4, .int (nI i))]) (kk : zo_K p l e s m below meth c cells slots Q b i dC dI cA cR cL mo ad o) : W p l e room_1 s m #[Value.ref b] below meth c H locs cells slots Q (F0 m 552 ls []) := by
  obtain ⟨hx, hb, hml, hown, hts, hX, hbl, hK, hE, hlt9⟩ := C
  have hA : ∀ q : Nat, s.heap.size ≤ q → (fun q : Nat => s.heap.size ≤ q) q := fun q h => h
  have hbA : ¬ (fun q : Nat => s.heap.size ≤ q) b := fun h => absurd hbl (Nat.not_lt.mpr h)
  obtain ⟨x, a, r0, k1, pv, pf, hC, hM, hx4, hk1, hra, hrel⟩ := st_turn l hlt9 dC dI cA cR cL [] mo ad o k hk P V F hR (xs (i + 1)) (xs (i + 2)) (xs (i + 3))
  refine lv_aload_n hx hb dL_law_552 rfl (lv_at hl 1 rfl) ?_
  refine lv_aload_n hx hb dL_law_553 rfl (lv_at hl 0 rfl) ?_
  refine lv_iload hx hb dL_law_554 (lv_at hl 4 rfl) ?_
  refine lv_iconst (v := nI 1) hx hb dL_law_556 (by decide) ?_
  refine zr_iadd hx hb dL_law_557 ?_
  refine zl_sld hx hb hX hbl hbA hS (by omega) (by omega) dL_law_558 ?_
  refine lv_aload_n hx hb dL_law_559 rfl (lv_at hl 0 rfl) ?_
  refine lv_iload hx hb dL_law_560 (lv_at hl 4 rfl) ?_
  refine lv_iconst (v := nI 2) hx hb dL_law_562 (by decide) ?_
  refine zr_iadd hx hb dL_law_563 ?_
  refine zl_sld hx hb hX hbl hbA hS (by omega) (by omega) dL_law_564 ?_
  refine lv_aload_n hx hb dL_law_565 rfl (lv_at hl 0 rfl) ?_
  refine lv_iload hx hb dL_law_566 (lv_at hl 4 rfl) ?_
  refine lv_iconst (v := nI 3) hx hb dL_law_568 (by decide) ?_
  refine zr_iadd hx hb dL_law_569 ?_
  refine zl_sld hx hb hX hbl hbA hS (by omega) (by omega) dL_law_570 ?_
  refine lv_aload_n hx hb dL_law_571 rfl (lv_at hl 3 rfl) ?_
  refine zl_calli (w' := fun u : zl_U => zl_w cA cR cL (zm_w cA mo th k (zk_n k) (zk_t k) F fa fb fc fd) ad o k1 u) hD hS hA (zx_runSW (n := 5) (As := [.ref (ad 0), .int (xs (i + 1)), .int (xs (i + 2)), .int (xs (i + 3)), .ref (o)]) (rest := []) hx hb hml hts hown (hC (zm_w cA mo th k (zk_n k) (zk_t k) F fa fb fc fd) S g H.size) zl_L_92 zs_L_turn zo_ValueRingLaw zdL_turn (by decide +kernel) rfl rfl ⟨Nat.le_of_ble_eq_true rfl, Nat.le_of_ble_eq_true rfl⟩ (zl_preS hP hK hD hE hS hA) rfl hl.1 rfl (Nat.le_of_ble_eq_true rfl) dL_law_572 hcs) (fun r9 u9 H locs hu hP hD hS => ?_)
  obtain ⟨hr9, hout, hpv⟩ := hu
  subst hr9
  replace hP := zo_rotP hP
  replace hD := zo_rotD hD
  refine lv_istore (lv' := [(5, .int (nI (x))), (0, .ref (b)), (1, .ref (ad 0)), (2, .ref (mo 0)), (3, .ref (o)), (4, .int (nI (i)))]) hx hb dL_law_575 hl (by decide) rfl (fun ls hl => ?_)
  refine lv_aload_n hx hb dL_law_577 rfl (lv_at hl 3 rfl) ?_
  refine lv_aload_n hx hb dL_law_578 rfl (lv_at hl 1 rfl) ?_
  refine lv_iload hx hb dL_law_579 (lv_at hl 5 rfl) ?_
  refine lv_iconst (v := nI 1) hx hb dL_law_581 (by decide) ?_
  refine zr_iadd hx hb dL_law_582 ?_
  refine zl_sld hx hb hX hbl hbA hS (by omega) (by omega) dL_law_583 ?_
  refine lv_aload_n hx hb dL_law_584 rfl (lv_at hl 1 rfl) ?_
  refine lv_iload hx hb dL_law_585 (lv_at hl 5 rfl) ?_
  refine lv_iconst (v := nI 2) hx hb dL_law_587 (by decide) ?_
  refine zr_iadd hx hb dL_law_588 ?_
  refine zl_sld hx hb hX hbl hbA hS (by omega) (by omega) dL_law_589 ?_
  refine lv_aload_n hx hb dL_law_590 rfl (lv_at hl 1 rfl) ?_
  refine lv_iload hx hb dL_law_591 (lv_at hl 5 rfl) ?_
  refine lv_iconst (v := nI 3) hx hb dL_law_593 (by decide) ?_
  refine zr_iadd hx hb dL_law_594 ?_
  refine zl_sld hx hb hX hbl hbA hS (by omega) (by omega) dL_law_595 ?_
  have hM2 := hM [(cR, .array .int), (cL, .long)] (zo_w cA cR cL ad o k1 u9) th fa fb fc fd H.size
  unfold zy_M at hM2
  refine zw_calli (w' := fun u : zq_U => zm_w cA mo x k1 (zk_n k1) (zk_t k1) u.1 u.2.1 u.2.2.1 u.2.2.2.1 u.2.2.2.2 ++ (zo_w cA cR cL ad o k1 u9)) hD hS hA (zx_runV (As := [.int (xs (i + 1)), .int (xs (i + 2)), .int (xs (i + 3))]) (rest := []) hx hb hml hts hown hM2 zv_L_94 rfl rfl ⟨Nat.le_of_ble_eq_true rfl, Nat.le_of_ble_eq_true rfl⟩ (zw_preV (q := (RX1, TM1, 9)) (ci := 1) (q0 := 0) hP hK hD rfl rfl) rfl hl.1 rfl (Nat.le_of_ble_eq_true rfl) dL_law_596 ⟨by show cells + 1 + 0 ≤ 601024; omega, by show slots + 6 + 0 ≤ 7293034; omega⟩) (fun r8 v9 H locs hu hP hD hS => ?_)
  obtain ⟨hr8, hpf⟩ := hu
  subst hr8
  refine lv_istore (lv' := [(6, .int (r8)), (5, .int (nI (x))), (0, .ref (b)), (1, .ref (ad 0)), (2, .ref (mo 0)), (3, .ref (o)), (4, .int (nI (i)))]) hx hb dL_law_599 hl (by decide) rfl (fun ls hl => ?_)
  refine lv_aload_n hx hb dL_law_601 rfl (lv_at hl 4 rfl) ?_
  refine zr_callq (zx_runV (As := []) (rest := []) hx hb hml hts hown (cm_thrown l dC dI cA [(cR, .array .int), (cL, .long)] (zo_w cA cR cL ad o k1 u9) mo x k1 v9.1 v9.2.1 v9.2.2.1 v9.2.2.2.1 v9.2.2.2.2 hk1) zv_L_70 rfl rfl ⟨Nat.le_of_ble_eq_true rfl, Nat.le_of_ble_eq_true rfl⟩ (zr_preV (q := (RX1, TM1, 9)) (ci := 1) (q0 := 0) hP hK rfl rfl) rfl hl.1 rfl (Nat.le_of_ble_eq_true rfl) dL_law_602 ⟨by show cells + 1 + 0 ≤ 601024; omega, by show slots + 6 + 0 ≤ 7293034; omega⟩) ?_
  refine lv_iload hx hb dL_law_605 (lv_at hl 1 rfl) ?_
  refine zr_ieq (tgt := 612) hx hb dL_law_607 (by decide) (by omega) (by omega) (fun _ => ?_) (fun hno9 => absurd hno9 (by omega))
  refine lv_iload hx hb dL_law_612 (lv_at hl 1 rfl) ?_
  refine zr_ifne (tgt := 629) hx hb dL_law_614 (by decide) (by omega) (fun hx0 => ?_) (fun hx0 => ?_)
  · refine lv_goto (tgt := 1078) hx hb dL_law_629 (by decide) ?_
    exact kk k1 x u9 v9.1 v9.2.1 v9.2.2.1 v9.2.2.2.1 v9.2.2.2.2 H locs ls hk1 (hrel _ _ _ hpv hpf) (zo_bakP hP) (zo_bakD hD) hS (lv_sub hl [2, 3, 4, 5, 6] rfl)
  · refine lv_aload_n hx hb dL_law_617 rfl (lv_at hl 5 rfl) ?_
    refine lv_iconst (v := nI 0) hx hb dL_law_618 (by decide) ?_
    refine zl_lald (x := a) hx hb hK hP 26 2 rfl rfl (hout hx0) dL_law_619 ?_
    refine lv_iload hx hb dL_law_620 (lv_at hl 0 rfl) ?_
    refine lv_i2l (v := r8.toInt64) hx hb dL_law_622 rfl ?_
    refine zl_leq (tgt := 629) hx hb (hra hx0).symm dL_law_623 dL_law_624 (by decide) ?_
    refine lv_goto (tgt := 1078) hx hb dL_law_629 (by decide) ?_
    exact kk k1 x u9 v9.1 v9.2.1 v9.2.2.1 v9.2.2.2.1 v9.2.2.2.2 H locs ls hk1 (hrel _ _ _ hpv hpf) (zo_bakP hP) (zo_bakD hD) hS (lv_sub hl [2, 3, 4, 5, 6] rfl)
set_option maxHeartbeats 4000000 in
set_option maxRecDepth 100000 in
theorem lo_power {p : Program} {l : Launch} {e : Env} {s : State} {m : MethodId} {below : List Frame} {meth : Method} {c : Code} {H : Heap} {locs : List Loc} {cells slots : Nat} {Q : State → Prop} {ls : Array Slot} {b L i : Nat} {xs : Nat → Int32} {dC : Nat → ClassId} {dI : Nat → Nat → Nat} {cA cR cL : ClassId} {mo ad : Nat → Nat} {o k th : Nat} {S : Nat → Int32} {P : Nat → Nat} {V : Nat → Nat → Nat} {g : Nat → Int64} {F fa fb fc fd : Nat → Nat} (C : zo_C p l s m meth c b L xs dC dI cA cR cL) (hk : k < 4) (hR : zy_R k P V F) (hi : i + 5 ≤ L) (hL : L ≤ 2560) (hcs : cells + 1 ≤ 601024 ∧ slots + 6 ≤ 7293034)
    (hP : va_P (dC, dI) zz_cl (zl_w cA cR cL (zm_w cA mo th k (zk_n k) (zk_t k) F fa fb fc fd) ad o k ((S, P, V, g))) H) (hD : va_D (fun q : Nat => s.heap.size ≤ q) (zl_w cA cR cL (zm_w cA mo th k (zk_n k) (zk_t k) F fa fb fc fd) ad o k ((S, P, V, g)))) (hS : va_S (fun q : Nat => s.heap.size ≤ q) s.heap H locs) (hl : lv_has ls 8 [(0, .ref b), (1, .ref (ad 0)), (2, .ref (mo 0)), (3, .ref o), (4, .int (nI i))]) (kk : zo_K p l e s m below meth c cells slots Q b i dC dI cA cR cL mo ad o) : W p l e room_1 s m #[Value.ref b] below meth c H locs cells slots Q (F0 m 632 ls []) := by
  obtain ⟨hx, hb, hml, hown, hts, hX, hbl, hK, hE, hlt9⟩ := C
  have hA : ∀ q : Nat, s.heap.size ≤ q → (fun q : Nat => s.heap.size ≤ q) q := fun q h => h
  have hbA : ¬ (fun q : Nat => s.heap.size ≤ q) b := fun h => absurd hbl (Nat.not_lt.mpr h)
  obtain ⟨x, a, r0, k1, pv, pf, hC, hM, hx4, hk1, hra, hrel⟩ := st_power l hlt9 dC dI cA cR cL [] mo ad o k hk P V F hR (xs (i + 1)) (xs (i + 2)) (xs (i + 3))
  refine lv_aload_n hx hb dL_law_632 rfl (lv_at hl 1 rfl) ?_
  refine lv_aload_n hx hb dL_law_633 rfl (lv_at hl 0 rfl) ?_
  refine lv_iload hx hb dL_law_634 (lv_at hl 4 rfl) ?_
  refine lv_iconst (v := nI 1) hx hb dL_law_636 (by decide) ?_
  refine zr_iadd hx hb dL_law_637 ?_
  refine zl_sld hx hb hX hbl hbA hS (by omega) (by omega) dL_law_638 ?_
  refine lv_aload_n hx hb dL_law_639 rfl (lv_at hl 0 rfl) ?_
  refine lv_iload hx hb dL_law_640 (lv_at hl 4 rfl) ?_
  refine lv_iconst (v := nI 2) hx hb dL_law_642 (by decide) ?_
  refine zr_iadd hx hb dL_law_643 ?_
  refine zl_sld hx hb hX hbl hbA hS (by omega) (by omega) dL_law_644 ?_
  refine lv_aload_n hx hb dL_law_645 rfl (lv_at hl 0 rfl) ?_
  refine lv_iload hx hb dL_law_646 (lv_at hl 4 rfl) ?_
  refine lv_iconst (v := nI 3) hx hb dL_law_648 (by decide) ?_
  refine zr_iadd hx hb dL_law_649 ?_
  refine zl_sld hx hb hX hbl hbA hS (by omega) (by omega) dL_law_650 ?_
  refine lv_aload_n hx hb dL_law_651 rfl (lv_at hl 3 rfl) ?_
  refine zl_calli (w' := fun u : zl_U => zl_w cA cR cL (zm_w cA mo th k (zk_n k) (zk_t k) F fa fb fc fd) ad o k1 u) hD hS hA (zx_runSW (n := 5) (As := [.ref (ad 0), .int (xs (i + 1)), .int (xs (i + 2)), .int (xs (i + 3)), .ref (o)]) (rest := []) hx hb hml hts hown (hC (zm_w cA mo th k (zk_n k) (zk_t k) F fa fb fc fd) S g H.size) zl_L_95 zs_L_power zo_ValueRingLaw zdL_power (by decide +kernel) rfl rfl ⟨Nat.le_of_ble_eq_true rfl, Nat.le_of_ble_eq_true rfl⟩ (zl_preS hP hK hD hE hS hA) rfl hl.1 rfl (Nat.le_of_ble_eq_true rfl) dL_law_652 hcs) (fun r9 u9 H locs hu hP hD hS => ?_)
  obtain ⟨hr9, hout, hpv⟩ := hu
  subst hr9
  replace hP := zo_rotP hP
  replace hD := zo_rotD hD
  refine lv_istore (lv' := [(5, .int (nI (x))), (0, .ref (b)), (1, .ref (ad 0)), (2, .ref (mo 0)), (3, .ref (o)), (4, .int (nI (i)))]) hx hb dL_law_655 hl (by decide) rfl (fun ls hl => ?_)
  refine lv_aload_n hx hb dL_law_657 rfl (lv_at hl 3 rfl) ?_
  refine lv_aload_n hx hb dL_law_658 rfl (lv_at hl 1 rfl) ?_
  refine lv_iload hx hb dL_law_659 (lv_at hl 5 rfl) ?_
  refine lv_iconst (v := nI 1) hx hb dL_law_661 (by decide) ?_
  refine zr_iadd hx hb dL_law_662 ?_
  refine zl_sld hx hb hX hbl hbA hS (by omega) (by omega) dL_law_663 ?_
  refine lv_aload_n hx hb dL_law_664 rfl (lv_at hl 1 rfl) ?_
  refine lv_iload hx hb dL_law_665 (lv_at hl 5 rfl) ?_
  refine lv_iconst (v := nI 2) hx hb dL_law_667 (by decide) ?_
  refine zr_iadd hx hb dL_law_668 ?_
  refine zl_sld hx hb hX hbl hbA hS (by omega) (by omega) dL_law_669 ?_
  refine lv_aload_n hx hb dL_law_670 rfl (lv_at hl 1 rfl) ?_
  refine lv_iload hx hb dL_law_671 (lv_at hl 5 rfl) ?_
  refine lv_iconst (v := nI 3) hx hb dL_law_673 (by decide) ?_
  refine zr_iadd hx hb dL_law_674 ?_
  refine zl_sld hx hb hX hbl hbA hS (by omega) (by omega) dL_law_675 ?_
  have hM2 := hM [(cR, .array .int), (cL, .long)] (zo_w cA cR cL ad o k1 u9) th fa fb fc fd H.size
  unfold zy_M at hM2
  refine zw_calli (w' := fun u : zq_U => zm_w cA mo x k1 (zk_n k1) (zk_t k1) u.1 u.2.1 u.2.2.1 u.2.2.2.1 u.2.2.2.2 ++ (zo_w cA cR cL ad o k1 u9)) hD hS hA (zx_runV (As := [.int (xs (i + 1)), .int (xs (i + 2)), .int (xs (i + 3))]) (rest := []) hx hb hml hts hown hM2 zv_L_97 rfl rfl ⟨Nat.le_of_ble_eq_true rfl, Nat.le_of_ble_eq_true rfl⟩ (zw_preV (q := (RX1, TM1, 9)) (ci := 1) (q0 := 0) hP hK hD rfl rfl) rfl hl.1 rfl (Nat.le_of_ble_eq_true rfl) dL_law_676 ⟨by show cells + 1 + 0 ≤ 601024; omega, by show slots + 6 + 0 ≤ 7293034; omega⟩) (fun r8 v9 H locs hu hP hD hS => ?_)
  obtain ⟨hr8, hpf⟩ := hu
  subst hr8
  refine lv_istore (lv' := [(6, .int (r8)), (5, .int (nI (x))), (0, .ref (b)), (1, .ref (ad 0)), (2, .ref (mo 0)), (3, .ref (o)), (4, .int (nI (i)))]) hx hb dL_law_679 hl (by decide) rfl (fun ls hl => ?_)
  refine lv_aload_n hx hb dL_law_681 rfl (lv_at hl 4 rfl) ?_
  refine zr_callq (zx_runV (As := []) (rest := []) hx hb hml hts hown (cm_thrown l dC dI cA [(cR, .array .int), (cL, .long)] (zo_w cA cR cL ad o k1 u9) mo x k1 v9.1 v9.2.1 v9.2.2.1 v9.2.2.2.1 v9.2.2.2.2 hk1) zv_L_70 rfl rfl ⟨Nat.le_of_ble_eq_true rfl, Nat.le_of_ble_eq_true rfl⟩ (zr_preV (q := (RX1, TM1, 9)) (ci := 1) (q0 := 0) hP hK rfl rfl) rfl hl.1 rfl (Nat.le_of_ble_eq_true rfl) dL_law_682 ⟨by show cells + 1 + 0 ≤ 601024; omega, by show slots + 6 + 0 ≤ 7293034; omega⟩) ?_
  refine lv_iload hx hb dL_law_685 (lv_at hl 1 rfl) ?_
  refine zr_ieq (tgt := 692) hx hb dL_law_687 (by decide) (by omega) (by omega) (fun _ => ?_) (fun hno9 => absurd hno9 (by omega))
  refine lv_iload hx hb dL_law_692 (lv_at hl 1 rfl) ?_
  refine zr_ifne (tgt := 709) hx hb dL_law_694 (by decide) (by omega) (fun hx0 => ?_) (fun hx0 => ?_)
  · refine lv_goto (tgt := 1078) hx hb dL_law_709 (by decide) ?_
    exact kk k1 x u9 v9.1 v9.2.1 v9.2.2.1 v9.2.2.2.1 v9.2.2.2.2 H locs ls hk1 (hrel _ _ _ hpv hpf) (zo_bakP hP) (zo_bakD hD) hS (lv_sub hl [2, 3, 4, 5, 6] rfl)
  · refine lv_aload_n hx hb dL_law_697 rfl (lv_at hl 5 rfl) ?_
    refine lv_iconst (v := nI 0) hx hb dL_law_698 (by decide) ?_
    refine zl_lald (x := a) hx hb hK hP 26 2 rfl rfl (hout hx0) dL_law_699 ?_
    refine lv_iload hx hb dL_law_700 (lv_at hl 0 rfl) ?_
    refine lv_i2l (v := r8.toInt64) hx hb dL_law_702 rfl ?_
    refine zl_leq (tgt := 709) hx hb (hra hx0).symm dL_law_703 dL_law_704 (by decide) ?_
    refine lv_goto (tgt := 1078) hx hb dL_law_709 (by decide) ?_
    exact kk k1 x u9 v9.1 v9.2.1 v9.2.2.1 v9.2.2.2.1 v9.2.2.2.2 H locs ls hk1 (hrel _ _ _ hpv hpf) (zo_bakP hP) (zo_bakD hD) hS (lv_sub hl [2, 3, 4, 5, 6] rfl)
set_option maxHeartbeats 4000000 in
set_option maxRecDepth 100000 in
theorem lo_root {p : Program} {l : Launch} {e : Env} {s : State} {m : MethodId} {below : List Frame} {meth : Method} {c : Code} {H : Heap} {locs : List Loc} {cells slots : Nat} {Q : State → Prop} {ls : Array Slot} {b L i : Nat} {xs : Nat → Int32} {dC : Nat → ClassId} {dI : Nat → Nat → Nat} {cA cR cL : ClassId} {mo ad : Nat → Nat} {o k th : Nat} {S : Nat → Int32} {P : Nat → Nat} {V : Nat → Nat → Nat} {g : Nat → Int64} {F fa fb fc fd : Nat → Nat} (C : zo_C p l s m meth c b L xs dC dI cA cR cL) (hk : k < 4) (hR : zy_R k P V F) (hi : i + 5 ≤ L) (hL : L ≤ 2560) (hcs : cells + 1 ≤ 601024 ∧ slots + 6 ≤ 7293034)
    (hP : va_P (dC, dI) zz_cl (zl_w cA cR cL (zm_w cA mo th k (zk_n k) (zk_t k) F fa fb fc fd) ad o k ((S, P, V, g))) H) (hD : va_D (fun q : Nat => s.heap.size ≤ q) (zl_w cA cR cL (zm_w cA mo th k (zk_n k) (zk_t k) F fa fb fc fd) ad o k ((S, P, V, g)))) (hS : va_S (fun q : Nat => s.heap.size ≤ q) s.heap H locs) (hl : lv_has ls 8 [(0, .ref b), (1, .ref (ad 0)), (2, .ref (mo 0)), (3, .ref o), (4, .int (nI i))]) (kk : zo_K p l e s m below meth c cells slots Q b i dC dI cA cR cL mo ad o) : W p l e room_1 s m #[Value.ref b] below meth c H locs cells slots Q (F0 m 712 ls []) := by
  obtain ⟨hx, hb, hml, hown, hts, hX, hbl, hK, hE, hlt9⟩ := C
  have hA : ∀ q : Nat, s.heap.size ≤ q → (fun q : Nat => s.heap.size ≤ q) q := fun q h => h
  have hbA : ¬ (fun q : Nat => s.heap.size ≤ q) b := fun h => absurd hbl (Nat.not_lt.mpr h)
  obtain ⟨x, a, r0, k1, pv, pf, hC, hM, hx4, hk1, hra, hrel⟩ := st_root l hlt9 dC dI cA cR cL [] mo ad o k hk P V F hR (xs (i + 1)) (xs (i + 2))
  refine lv_aload_n hx hb dL_law_712 rfl (lv_at hl 1 rfl) ?_
  refine lv_aload_n hx hb dL_law_713 rfl (lv_at hl 0 rfl) ?_
  refine lv_iload hx hb dL_law_714 (lv_at hl 4 rfl) ?_
  refine lv_iconst (v := nI 1) hx hb dL_law_716 (by decide) ?_
  refine zr_iadd hx hb dL_law_717 ?_
  refine zl_sld hx hb hX hbl hbA hS (by omega) (by omega) dL_law_718 ?_
  refine lv_aload_n hx hb dL_law_719 rfl (lv_at hl 0 rfl) ?_
  refine lv_iload hx hb dL_law_720 (lv_at hl 4 rfl) ?_
  refine lv_iconst (v := nI 2) hx hb dL_law_722 (by decide) ?_
  refine zr_iadd hx hb dL_law_723 ?_
  refine zl_sld hx hb hX hbl hbA hS (by omega) (by omega) dL_law_724 ?_
  refine lv_aload_n hx hb dL_law_725 rfl (lv_at hl 3 rfl) ?_
  refine zl_calli (w' := fun u : zl_U => zl_w cA cR cL (zm_w cA mo th k (zk_n k) (zk_t k) F fa fb fc fd) ad o k1 u) hD hS hA (zx_runSW (n := 4) (As := [.ref (ad 0), .int (xs (i + 1)), .int (xs (i + 2)), .ref (o)]) (rest := []) hx hb hml hts hown (hC (zm_w cA mo th k (zk_n k) (zk_t k) F fa fb fc fd) S g H.size) zl_L_98 zs_L_root zo_ValueRingLaw zdL_root (by decide +kernel) rfl rfl ⟨Nat.le_of_ble_eq_true rfl, Nat.le_of_ble_eq_true rfl⟩ (zl_preS hP hK hD hE hS hA) rfl hl.1 rfl (Nat.le_of_ble_eq_true rfl) dL_law_726 hcs) (fun r9 u9 H locs hu hP hD hS => ?_)
  obtain ⟨hr9, hout, hpv⟩ := hu
  subst hr9
  replace hP := zo_rotP hP
  replace hD := zo_rotD hD
  refine lv_istore (lv' := [(5, .int (nI (x))), (0, .ref (b)), (1, .ref (ad 0)), (2, .ref (mo 0)), (3, .ref (o)), (4, .int (nI (i)))]) hx hb dL_law_729 hl (by decide) rfl (fun ls hl => ?_)
  refine lv_aload_n hx hb dL_law_731 rfl (lv_at hl 3 rfl) ?_
  refine lv_aload_n hx hb dL_law_732 rfl (lv_at hl 1 rfl) ?_
  refine lv_iload hx hb dL_law_733 (lv_at hl 5 rfl) ?_
  refine lv_iconst (v := nI 1) hx hb dL_law_735 (by decide) ?_
  refine zr_iadd hx hb dL_law_736 ?_
  refine zl_sld hx hb hX hbl hbA hS (by omega) (by omega) dL_law_737 ?_
  refine lv_aload_n hx hb dL_law_738 rfl (lv_at hl 1 rfl) ?_
  refine lv_iload hx hb dL_law_739 (lv_at hl 5 rfl) ?_
  refine lv_iconst (v := nI 2) hx hb dL_law_741 (by decide) ?_
  refine zr_iadd hx hb dL_law_742 ?_
  refine zl_sld hx hb hX hbl hbA hS (by omega) (by omega) dL_law_743 ?_
  have hM2 := hM [(cR, .array .int), (cL, .long)] (zo_w cA cR cL ad o k1 u9) th fa fb fc fd H.size
  unfold zy_ML at hM2
  refine zw_calll (w' := fun u : zq_U => zm_w cA mo x k1 (zk_n k1) (zk_t k1) u.1 u.2.1 u.2.2.1 u.2.2.2.1 u.2.2.2.2 ++ (zo_w cA cR cL ad o k1 u9)) hD hS hA (zx_runV (As := [.int (xs (i + 1)), .int (xs (i + 2))]) (rest := []) hx hb hml hts hown hM2 zv_L_100 rfl rfl ⟨Nat.le_of_ble_eq_true rfl, Nat.le_of_ble_eq_true rfl⟩ (zw_preV (q := (RX1, TM1, 9)) (ci := 1) (q0 := 0) hP hK hD rfl rfl) rfl hl.1 rfl (Nat.le_of_ble_eq_true rfl) dL_law_744 ⟨by show cells + 1 + 0 ≤ 601024; omega, by show slots + 6 + 0 ≤ 7293034; omega⟩) (fun r8 v9 H locs hu hP hD hS => ?_)
  obtain ⟨hr8, hpf⟩ := hu
  subst hr8
  refine lv_lstore (lv' := [(6, .long (r8)), (5, .int (nI (x))), (0, .ref (b)), (1, .ref (ad 0)), (2, .ref (mo 0)), (3, .ref (o)), (4, .int (nI (i)))]) hx hb dL_law_747 hl (by decide) rfl (fun ls hl => ?_)
  refine lv_aload_n hx hb dL_law_749 rfl (lv_at hl 4 rfl) ?_
  refine zr_callq (zx_runV (As := []) (rest := []) hx hb hml hts hown (cm_thrown l dC dI cA [(cR, .array .int), (cL, .long)] (zo_w cA cR cL ad o k1 u9) mo x k1 v9.1 v9.2.1 v9.2.2.1 v9.2.2.2.1 v9.2.2.2.2 hk1) zv_L_70 rfl rfl ⟨Nat.le_of_ble_eq_true rfl, Nat.le_of_ble_eq_true rfl⟩ (zr_preV (q := (RX1, TM1, 9)) (ci := 1) (q0 := 0) hP hK rfl rfl) rfl hl.1 rfl (Nat.le_of_ble_eq_true rfl) dL_law_750 ⟨by show cells + 1 + 0 ≤ 601024; omega, by show slots + 6 + 0 ≤ 7293034; omega⟩) ?_
  refine lv_iload hx hb dL_law_753 (lv_at hl 1 rfl) ?_
  refine zr_ieq (tgt := 760) hx hb dL_law_755 (by decide) (by omega) (by omega) (fun _ => ?_) (fun hno9 => absurd hno9 (by omega))
  refine lv_iload hx hb dL_law_760 (lv_at hl 1 rfl) ?_
  refine zr_ifne (tgt := 776) hx hb dL_law_762 (by decide) (by omega) (fun hx0 => ?_) (fun hx0 => ?_)
  · refine lv_goto (tgt := 1078) hx hb dL_law_776 (by decide) ?_
    exact kk k1 x u9 v9.1 v9.2.1 v9.2.2.1 v9.2.2.2.1 v9.2.2.2.2 H locs ls hk1 (hrel _ _ _ hpv hpf) (zo_bakP hP) (zo_bakD hD) hS (lv_sub hl [2, 3, 4, 5, 6] rfl)
  · refine lv_aload_n hx hb dL_law_765 rfl (lv_at hl 5 rfl) ?_
    refine lv_iconst (v := nI 0) hx hb dL_law_766 (by decide) ?_
    refine zl_lald (x := a) hx hb hK hP 26 2 rfl rfl (hout hx0) dL_law_767 ?_
    refine lv_lload hx hb dL_law_768 (lv_at hl 0 rfl) ?_
    refine zl_leq (tgt := 776) hx hb (hra hx0).symm dL_law_770 dL_law_771 (by decide) ?_
    refine lv_goto (tgt := 1078) hx hb dL_law_776 (by decide) ?_
    exact kk k1 x u9 v9.1 v9.2.1 v9.2.2.1 v9.2.2.2.1 v9.2.2.2.2 H locs ls hk1 (hrel _ _ _ hpv hpf) (zo_bakP hP) (zo_bakD hD) hS (lv_sub hl [2, 3, 4, 5, 6] rfl)
set_option maxHeartbeats 4000000 in
set_option maxRecDepth 100000 in
theorem lo_order {p : Program} {l : Launch} {e : Env} {s : State} {m : MethodId} {below : List Frame} {meth : Method} {c : Code} {H : Heap} {locs : List Loc} {cells slots : Nat} {Q : State → Prop} {ls : Array Slot} {b L i : Nat} {xs : Nat → Int32} {dC : Nat → ClassId} {dI : Nat → Nat → Nat} {cA cR cL : ClassId} {mo ad : Nat → Nat} {o k th : Nat} {S : Nat → Int32} {P : Nat → Nat} {V : Nat → Nat → Nat} {g : Nat → Int64} {F fa fb fc fd : Nat → Nat} (C : zo_C p l s m meth c b L xs dC dI cA cR cL) (hk : k < 4) (hR : zy_R k P V F) (hi : i + 5 ≤ L) (hL : L ≤ 2560) (hcs : cells + 1 ≤ 601024 ∧ slots + 6 ≤ 7293034)
    (hP : va_P (dC, dI) zz_cl (zl_w cA cR cL (zm_w cA mo th k (zk_n k) (zk_t k) F fa fb fc fd) ad o k ((S, P, V, g))) H) (hD : va_D (fun q : Nat => s.heap.size ≤ q) (zl_w cA cR cL (zm_w cA mo th k (zk_n k) (zk_t k) F fa fb fc fd) ad o k ((S, P, V, g)))) (hS : va_S (fun q : Nat => s.heap.size ≤ q) s.heap H locs) (hl : lv_has ls 8 [(0, .ref b), (1, .ref (ad 0)), (2, .ref (mo 0)), (3, .ref o), (4, .int (nI i))]) (kk : zo_K p l e s m below meth c cells slots Q b i dC dI cA cR cL mo ad o) : W p l e room_1 s m #[Value.ref b] below meth c H locs cells slots Q (F0 m 779 ls []) := by
  obtain ⟨hx, hb, hml, hown, hts, hX, hbl, hK, hE, hlt9⟩ := C
  have hA : ∀ q : Nat, s.heap.size ≤ q → (fun q : Nat => s.heap.size ≤ q) q := fun q h => h
  have hbA : ¬ (fun q : Nat => s.heap.size ≤ q) b := fun h => absurd hbl (Nat.not_lt.mpr h)
  obtain ⟨x, a, r0, k1, pv, pf, hC, hM, hx4, hk1, hra, hrel⟩ := st_order l hlt9 dC dI cA cR cL [] mo ad o k hk P V F hR (xs (i + 1))
  refine lv_aload_n hx hb dL_law_779 rfl (lv_at hl 1 rfl) ?_
  refine lv_aload_n hx hb dL_law_780 rfl (lv_at hl 0 rfl) ?_
  refine lv_iload hx hb dL_law_781 (lv_at hl 4 rfl) ?_
  refine lv_iconst (v := nI 1) hx hb dL_law_783 (by decide) ?_
  refine zr_iadd hx hb dL_law_784 ?_
  refine zl_sld hx hb hX hbl hbA hS (by omega) (by omega) dL_law_785 ?_
  refine lv_aload_n hx hb dL_law_786 rfl (lv_at hl 3 rfl) ?_
  refine zl_calli (w' := fun u : zl_U => zl_w cA cR cL (zm_w cA mo th k (zk_n k) (zk_t k) F fa fb fc fd) ad o k1 u) hD hS hA (zx_runSW (n := 3) (As := [.ref (ad 0), .int (xs (i + 1)), .ref (o)]) (rest := []) hx hb hml hts hown (hC (zm_w cA mo th k (zk_n k) (zk_t k) F fa fb fc fd) S g H.size) zl_L_101 zs_L_order zo_ValueRingLaw zdL_order (by decide +kernel) rfl rfl ⟨Nat.le_of_ble_eq_true rfl, Nat.le_of_ble_eq_true rfl⟩ (zl_preS hP hK hD hE hS hA) rfl hl.1 rfl (Nat.le_of_ble_eq_true rfl) dL_law_787 hcs) (fun r9 u9 H locs hu hP hD hS => ?_)
  obtain ⟨hr9, hout, hpv⟩ := hu
  subst hr9
  replace hP := zo_rotP hP
  replace hD := zo_rotD hD
  refine lv_istore (lv' := [(5, .int (nI (x))), (0, .ref (b)), (1, .ref (ad 0)), (2, .ref (mo 0)), (3, .ref (o)), (4, .int (nI (i)))]) hx hb dL_law_790 hl (by decide) rfl (fun ls hl => ?_)
  refine lv_aload_n hx hb dL_law_792 rfl (lv_at hl 3 rfl) ?_
  refine lv_aload_n hx hb dL_law_793 rfl (lv_at hl 1 rfl) ?_
  refine lv_iload hx hb dL_law_794 (lv_at hl 5 rfl) ?_
  refine lv_iconst (v := nI 1) hx hb dL_law_796 (by decide) ?_
  refine zr_iadd hx hb dL_law_797 ?_
  refine zl_sld hx hb hX hbl hbA hS (by omega) (by omega) dL_law_798 ?_
  have hM2 := hM [(cR, .array .int), (cL, .long)] (zo_w cA cR cL ad o k1 u9) th fa fb fc fd H.size
  unfold zy_M at hM2
  refine zw_calli (w' := fun u : zq_U => zm_w cA mo x k1 (zk_n k1) (zk_t k1) u.1 u.2.1 u.2.2.1 u.2.2.2.1 u.2.2.2.2 ++ (zo_w cA cR cL ad o k1 u9)) hD hS hA (zx_runV (As := [.int (xs (i + 1))]) (rest := []) hx hb hml hts hown hM2 zv_L_103 rfl rfl ⟨Nat.le_of_ble_eq_true rfl, Nat.le_of_ble_eq_true rfl⟩ (zw_preV (q := (RX1, TM1, 9)) (ci := 1) (q0 := 0) hP hK hD rfl rfl) rfl hl.1 rfl (Nat.le_of_ble_eq_true rfl) dL_law_799 ⟨by show cells + 1 + 0 ≤ 601024; omega, by show slots + 6 + 0 ≤ 7293034; omega⟩) (fun r8 v9 H locs hu hP hD hS => ?_)
  obtain ⟨hr8, hpf⟩ := hu
  subst hr8
  refine lv_istore (lv' := [(6, .int (r8)), (5, .int (nI (x))), (0, .ref (b)), (1, .ref (ad 0)), (2, .ref (mo 0)), (3, .ref (o)), (4, .int (nI (i)))]) hx hb dL_law_802 hl (by decide) rfl (fun ls hl => ?_)
  refine lv_aload_n hx hb dL_law_804 rfl (lv_at hl 4 rfl) ?_
  refine zr_callq (zx_runV (As := []) (rest := []) hx hb hml hts hown (cm_thrown l dC dI cA [(cR, .array .int), (cL, .long)] (zo_w cA cR cL ad o k1 u9) mo x k1 v9.1 v9.2.1 v9.2.2.1 v9.2.2.2.1 v9.2.2.2.2 hk1) zv_L_70 rfl rfl ⟨Nat.le_of_ble_eq_true rfl, Nat.le_of_ble_eq_true rfl⟩ (zr_preV (q := (RX1, TM1, 9)) (ci := 1) (q0 := 0) hP hK rfl rfl) rfl hl.1 rfl (Nat.le_of_ble_eq_true rfl) dL_law_805 ⟨by show cells + 1 + 0 ≤ 601024; omega, by show slots + 6 + 0 ≤ 7293034; omega⟩) ?_
  refine lv_iload hx hb dL_law_808 (lv_at hl 1 rfl) ?_
  refine zr_ieq (tgt := 815) hx hb dL_law_810 (by decide) (by omega) (by omega) (fun _ => ?_) (fun hno9 => absurd hno9 (by omega))
  refine lv_iload hx hb dL_law_815 (lv_at hl 1 rfl) ?_
  refine zr_ifne (tgt := 832) hx hb dL_law_817 (by decide) (by omega) (fun hx0 => ?_) (fun hx0 => ?_)
  · refine lv_goto (tgt := 1078) hx hb dL_law_832 (by decide) ?_
    exact kk k1 x u9 v9.1 v9.2.1 v9.2.2.1 v9.2.2.2.1 v9.2.2.2.2 H locs ls hk1 (hrel _ _ _ hpv hpf) (zo_bakP hP) (zo_bakD hD) hS (lv_sub hl [2, 3, 4, 5, 6] rfl)
  · refine lv_aload_n hx hb dL_law_820 rfl (lv_at hl 5 rfl) ?_
    refine lv_iconst (v := nI 0) hx hb dL_law_821 (by decide) ?_
    refine zl_lald (x := a) hx hb hK hP 26 2 rfl rfl (hout hx0) dL_law_822 ?_
    refine lv_iload hx hb dL_law_823 (lv_at hl 0 rfl) ?_
    refine lv_i2l (v := r8.toInt64) hx hb dL_law_825 rfl ?_
    refine zl_leq (tgt := 832) hx hb (hra hx0).symm dL_law_826 dL_law_827 (by decide) ?_
    refine lv_goto (tgt := 1078) hx hb dL_law_832 (by decide) ?_
    exact kk k1 x u9 v9.1 v9.2.1 v9.2.2.1 v9.2.2.2.1 v9.2.2.2.2 H locs ls hk1 (hrel _ _ _ hpv hpf) (zo_bakP hP) (zo_bakD hD) hS (lv_sub hl [2, 3, 4, 5, 6] rfl)
set_option maxHeartbeats 4000000 in
set_option maxRecDepth 100000 in
theorem lo_about {p : Program} {l : Launch} {e : Env} {s : State} {m : MethodId} {below : List Frame} {meth : Method} {c : Code} {H : Heap} {locs : List Loc} {cells slots : Nat} {Q : State → Prop} {ls : Array Slot} {b L i : Nat} {xs : Nat → Int32} {dC : Nat → ClassId} {dI : Nat → Nat → Nat} {cA cR cL : ClassId} {mo ad : Nat → Nat} {o k th : Nat} {S : Nat → Int32} {P : Nat → Nat} {V : Nat → Nat → Nat} {g : Nat → Int64} {F fa fb fc fd : Nat → Nat} (C : zo_C p l s m meth c b L xs dC dI cA cR cL) (hk : k < 4) (hR : zy_R k P V F) (hi : i + 5 ≤ L) (hL : L ≤ 2560) (hcs : cells + 1 ≤ 601024 ∧ slots + 6 ≤ 7293034)
    (hP : va_P (dC, dI) zz_cl (zl_w cA cR cL (zm_w cA mo th k (zk_n k) (zk_t k) F fa fb fc fd) ad o k ((S, P, V, g))) H) (hD : va_D (fun q : Nat => s.heap.size ≤ q) (zl_w cA cR cL (zm_w cA mo th k (zk_n k) (zk_t k) F fa fb fc fd) ad o k ((S, P, V, g)))) (hS : va_S (fun q : Nat => s.heap.size ≤ q) s.heap H locs) (hl : lv_has ls 8 [(0, .ref b), (1, .ref (ad 0)), (2, .ref (mo 0)), (3, .ref o), (4, .int (nI i))]) (kk : zo_K p l e s m below meth c cells slots Q b i dC dI cA cR cL mo ad o) : W p l e room_1 s m #[Value.ref b] below meth c H locs cells slots Q (F0 m 835 ls []) := by
  obtain ⟨hx, hb, hml, hown, hts, hX, hbl, hK, hE, hlt9⟩ := C
  have hA : ∀ q : Nat, s.heap.size ≤ q → (fun q : Nat => s.heap.size ≤ q) q := fun q h => h
  have hbA : ¬ (fun q : Nat => s.heap.size ≤ q) b := fun h => absurd hbl (Nat.not_lt.mpr h)
  obtain ⟨x, a, r0, k1, pv, pf, hC, hM, hx4, hk1, hra, hrel⟩ := st_about l hlt9 dC dI cA cR cL [] mo ad o k hk P V F hR (xs (i + 1)) (xs (i + 2))
  refine lv_aload_n hx hb dL_law_835 rfl (lv_at hl 1 rfl) ?_
  refine lv_aload_n hx hb dL_law_836 rfl (lv_at hl 0 rfl) ?_
  refine lv_iload hx hb dL_law_837 (lv_at hl 4 rfl) ?_
  refine lv_iconst (v := nI 1) hx hb dL_law_839 (by decide) ?_
  refine zr_iadd hx hb dL_law_840 ?_
  refine zl_sld hx hb hX hbl hbA hS (by omega) (by omega) dL_law_841 ?_
  refine lv_aload_n hx hb dL_law_842 rfl (lv_at hl 0 rfl) ?_
  refine lv_iload hx hb dL_law_843 (lv_at hl 4 rfl) ?_
  refine lv_iconst (v := nI 2) hx hb dL_law_845 (by decide) ?_
  refine zr_iadd hx hb dL_law_846 ?_
  refine zl_sld hx hb hX hbl hbA hS (by omega) (by omega) dL_law_847 ?_
  refine lv_aload_n hx hb dL_law_848 rfl (lv_at hl 3 rfl) ?_
  refine zl_calli (w' := fun u : zl_U => zl_w cA cR cL (zm_w cA mo th k (zk_n k) (zk_t k) F fa fb fc fd) ad o k1 u) hD hS hA (zx_runSW (n := 4) (As := [.ref (ad 0), .int (xs (i + 1)), .int (xs (i + 2)), .ref (o)]) (rest := []) hx hb hml hts hown (hC (zm_w cA mo th k (zk_n k) (zk_t k) F fa fb fc fd) S g H.size) zl_L_104 zs_L_about zo_ValueRingLaw zdL_about (by decide +kernel) rfl rfl ⟨Nat.le_of_ble_eq_true rfl, Nat.le_of_ble_eq_true rfl⟩ (zl_preS hP hK hD hE hS hA) rfl hl.1 rfl (Nat.le_of_ble_eq_true rfl) dL_law_849 hcs) (fun r9 u9 H locs hu hP hD hS => ?_)
  obtain ⟨hr9, hout, hpv⟩ := hu
  subst hr9
  replace hP := zo_rotP hP
  replace hD := zo_rotD hD
  refine lv_istore (lv' := [(5, .int (nI (x))), (0, .ref (b)), (1, .ref (ad 0)), (2, .ref (mo 0)), (3, .ref (o)), (4, .int (nI (i)))]) hx hb dL_law_852 hl (by decide) rfl (fun ls hl => ?_)
  refine lv_aload_n hx hb dL_law_854 rfl (lv_at hl 3 rfl) ?_
  refine lv_aload_n hx hb dL_law_855 rfl (lv_at hl 1 rfl) ?_
  refine lv_iload hx hb dL_law_856 (lv_at hl 5 rfl) ?_
  refine lv_iconst (v := nI 1) hx hb dL_law_858 (by decide) ?_
  refine zr_iadd hx hb dL_law_859 ?_
  refine zl_sld hx hb hX hbl hbA hS (by omega) (by omega) dL_law_860 ?_
  refine lv_aload_n hx hb dL_law_861 rfl (lv_at hl 1 rfl) ?_
  refine lv_iload hx hb dL_law_862 (lv_at hl 5 rfl) ?_
  refine lv_iconst (v := nI 2) hx hb dL_law_864 (by decide) ?_
  refine zr_iadd hx hb dL_law_865 ?_
  refine zl_sld hx hb hX hbl hbA hS (by omega) (by omega) dL_law_866 ?_
  have hM2 := hM [(cR, .array .int), (cL, .long)] (zo_w cA cR cL ad o k1 u9) th fa fb fc fd H.size
  unfold zy_M at hM2
  refine zw_calli (w' := fun u : zq_U => zm_w cA mo x k1 (zk_n k1) (zk_t k1) u.1 u.2.1 u.2.2.1 u.2.2.2.1 u.2.2.2.2 ++ (zo_w cA cR cL ad o k1 u9)) hD hS hA (zx_runV (As := [.int (xs (i + 1)), .int (xs (i + 2))]) (rest := []) hx hb hml hts hown hM2 zv_L_106 rfl rfl ⟨Nat.le_of_ble_eq_true rfl, Nat.le_of_ble_eq_true rfl⟩ (zw_preV (q := (RX1, TM1, 9)) (ci := 1) (q0 := 0) hP hK hD rfl rfl) rfl hl.1 rfl (Nat.le_of_ble_eq_true rfl) dL_law_867 ⟨by show cells + 1 + 0 ≤ 601024; omega, by show slots + 6 + 0 ≤ 7293034; omega⟩) (fun r8 v9 H locs hu hP hD hS => ?_)
  obtain ⟨hr8, hpf⟩ := hu
  subst hr8
  refine lv_istore (lv' := [(6, .int (r8)), (5, .int (nI (x))), (0, .ref (b)), (1, .ref (ad 0)), (2, .ref (mo 0)), (3, .ref (o)), (4, .int (nI (i)))]) hx hb dL_law_870 hl (by decide) rfl (fun ls hl => ?_)
  refine lv_aload_n hx hb dL_law_872 rfl (lv_at hl 4 rfl) ?_
  refine zr_callq (zx_runV (As := []) (rest := []) hx hb hml hts hown (cm_thrown l dC dI cA [(cR, .array .int), (cL, .long)] (zo_w cA cR cL ad o k1 u9) mo x k1 v9.1 v9.2.1 v9.2.2.1 v9.2.2.2.1 v9.2.2.2.2 hk1) zv_L_70 rfl rfl ⟨Nat.le_of_ble_eq_true rfl, Nat.le_of_ble_eq_true rfl⟩ (zr_preV (q := (RX1, TM1, 9)) (ci := 1) (q0 := 0) hP hK rfl rfl) rfl hl.1 rfl (Nat.le_of_ble_eq_true rfl) dL_law_873 ⟨by show cells + 1 + 0 ≤ 601024; omega, by show slots + 6 + 0 ≤ 7293034; omega⟩) ?_
  refine lv_iload hx hb dL_law_876 (lv_at hl 1 rfl) ?_
  refine zr_ieq (tgt := 883) hx hb dL_law_878 (by decide) (by omega) (by omega) (fun _ => ?_) (fun hno9 => absurd hno9 (by omega))
  refine lv_iload hx hb dL_law_883 (lv_at hl 1 rfl) ?_
  refine zr_ifne (tgt := 900) hx hb dL_law_885 (by decide) (by omega) (fun hx0 => ?_) (fun hx0 => ?_)
  · refine lv_goto (tgt := 1078) hx hb dL_law_900 (by decide) ?_
    exact kk k1 x u9 v9.1 v9.2.1 v9.2.2.1 v9.2.2.2.1 v9.2.2.2.2 H locs ls hk1 (hrel _ _ _ hpv hpf) (zo_bakP hP) (zo_bakD hD) hS (lv_sub hl [2, 3, 4, 5, 6] rfl)
  · refine lv_aload_n hx hb dL_law_888 rfl (lv_at hl 5 rfl) ?_
    refine lv_iconst (v := nI 0) hx hb dL_law_889 (by decide) ?_
    refine zl_lald (x := a) hx hb hK hP 26 2 rfl rfl (hout hx0) dL_law_890 ?_
    refine lv_iload hx hb dL_law_891 (lv_at hl 0 rfl) ?_
    refine lv_i2l (v := r8.toInt64) hx hb dL_law_893 rfl ?_
    refine zl_leq (tgt := 900) hx hb (hra hx0).symm dL_law_894 dL_law_895 (by decide) ?_
    refine lv_goto (tgt := 1078) hx hb dL_law_900 (by decide) ?_
    exact kk k1 x u9 v9.1 v9.2.1 v9.2.2.1 v9.2.2.2.1 v9.2.2.2.2 H locs ls hk1 (hrel _ _ _ hpv hpf) (zo_bakP hP) (zo_bakD hD) hS (lv_sub hl [2, 3, 4, 5, 6] rfl)
set_option maxHeartbeats 4000000 in
set_option maxRecDepth 100000 in
theorem lo_same {p : Program} {l : Launch} {e : Env} {s : State} {m : MethodId} {below : List Frame} {meth : Method} {c : Code} {H : Heap} {locs : List Loc} {cells slots : Nat} {Q : State → Prop} {ls : Array Slot} {b L i : Nat} {xs : Nat → Int32} {dC : Nat → ClassId} {dI : Nat → Nat → Nat} {cA cR cL : ClassId} {mo ad : Nat → Nat} {o k th : Nat} {S : Nat → Int32} {P : Nat → Nat} {V : Nat → Nat → Nat} {g : Nat → Int64} {F fa fb fc fd : Nat → Nat} (C : zo_C p l s m meth c b L xs dC dI cA cR cL) (hk : k < 4) (hR : zy_R k P V F) (hi : i + 5 ≤ L) (hL : L ≤ 2560) (hcs : cells + 1 ≤ 601024 ∧ slots + 6 ≤ 7293034)
    (hP : va_P (dC, dI) zz_cl (zl_w cA cR cL (zm_w cA mo th k (zk_n k) (zk_t k) F fa fb fc fd) ad o k ((S, P, V, g))) H) (hD : va_D (fun q : Nat => s.heap.size ≤ q) (zl_w cA cR cL (zm_w cA mo th k (zk_n k) (zk_t k) F fa fb fc fd) ad o k ((S, P, V, g)))) (hS : va_S (fun q : Nat => s.heap.size ≤ q) s.heap H locs) (hl : lv_has ls 8 [(0, .ref b), (1, .ref (ad 0)), (2, .ref (mo 0)), (3, .ref o), (4, .int (nI i))]) (kk : zo_K p l e s m below meth c cells slots Q b i dC dI cA cR cL mo ad o) : W p l e room_1 s m #[Value.ref b] below meth c H locs cells slots Q (F0 m 903 ls []) := by
  obtain ⟨hx, hb, hml, hown, hts, hX, hbl, hK, hE, hlt9⟩ := C
  have hA : ∀ q : Nat, s.heap.size ≤ q → (fun q : Nat => s.heap.size ≤ q) q := fun q h => h
  have hbA : ¬ (fun q : Nat => s.heap.size ≤ q) b := fun h => absurd hbl (Nat.not_lt.mpr h)
  obtain ⟨x, a, b0, k1, pv, pf, hC, hM, hx4, hk1, hb2, hra, hrel⟩ := st_same l hlt9 dC dI cA cR cL [] mo ad o k hk P V F hR (xs (i + 1)) (xs (i + 2))
  refine lv_aload_n hx hb dL_law_903 rfl (lv_at hl 1 rfl) ?_
  refine lv_aload_n hx hb dL_law_904 rfl (lv_at hl 0 rfl) ?_
  refine lv_iload hx hb dL_law_905 (lv_at hl 4 rfl) ?_
  refine lv_iconst (v := nI 1) hx hb dL_law_907 (by decide) ?_
  refine zr_iadd hx hb dL_law_908 ?_
  refine zl_sld hx hb hX hbl hbA hS (by omega) (by omega) dL_law_909 ?_
  refine lv_aload_n hx hb dL_law_910 rfl (lv_at hl 0 rfl) ?_
  refine lv_iload hx hb dL_law_911 (lv_at hl 4 rfl) ?_
  refine lv_iconst (v := nI 2) hx hb dL_law_913 (by decide) ?_
  refine zr_iadd hx hb dL_law_914 ?_
  refine zl_sld hx hb hX hbl hbA hS (by omega) (by omega) dL_law_915 ?_
  refine lv_aload_n hx hb dL_law_916 rfl (lv_at hl 3 rfl) ?_
  refine zl_calli (w' := fun u : zl_U => zl_w cA cR cL (zm_w cA mo th k (zk_n k) (zk_t k) F fa fb fc fd) ad o k1 u) hD hS hA (zx_runSW (n := 4) (As := [.ref (ad 0), .int (xs (i + 1)), .int (xs (i + 2)), .ref (o)]) (rest := []) hx hb hml hts hown (hC (zm_w cA mo th k (zk_n k) (zk_t k) F fa fb fc fd) S g H.size) zl_L_107 zs_L_same zo_ValueRingLaw zdL_same (by decide +kernel) rfl rfl ⟨Nat.le_of_ble_eq_true rfl, Nat.le_of_ble_eq_true rfl⟩ (zl_preS hP hK hD hE hS hA) rfl hl.1 rfl (Nat.le_of_ble_eq_true rfl) dL_law_917 hcs) (fun r9 u9 H locs hu hP hD hS => ?_)
  obtain ⟨hr9, hout, hpv⟩ := hu
  subst hr9
  replace hP := zo_rotP hP
  replace hD := zo_rotD hD
  refine lv_istore (lv' := [(5, .int (nI (x))), (0, .ref (b)), (1, .ref (ad 0)), (2, .ref (mo 0)), (3, .ref (o)), (4, .int (nI (i)))]) hx hb dL_law_920 hl (by decide) rfl (fun ls hl => ?_)
  refine lv_aload_n hx hb dL_law_922 rfl (lv_at hl 3 rfl) ?_
  refine lv_aload_n hx hb dL_law_923 rfl (lv_at hl 1 rfl) ?_
  refine lv_iload hx hb dL_law_924 (lv_at hl 5 rfl) ?_
  refine lv_iconst (v := nI 1) hx hb dL_law_926 (by decide) ?_
  refine zr_iadd hx hb dL_law_927 ?_
  refine zl_sld hx hb hX hbl hbA hS (by omega) (by omega) dL_law_928 ?_
  refine lv_aload_n hx hb dL_law_929 rfl (lv_at hl 1 rfl) ?_
  refine lv_iload hx hb dL_law_930 (lv_at hl 5 rfl) ?_
  refine lv_iconst (v := nI 2) hx hb dL_law_932 (by decide) ?_
  refine zr_iadd hx hb dL_law_933 ?_
  refine zl_sld hx hb hX hbl hbA hS (by omega) (by omega) dL_law_934 ?_
  have hM2 := hM [(cR, .array .int), (cL, .long)] (zo_w cA cR cL ad o k1 u9) th fa fb fc fd H.size
  unfold zy_M at hM2
  refine zw_calli (w' := fun u : zq_U => zm_w cA mo x k1 (zk_n k1) (zk_t k1) u.1 u.2.1 u.2.2.1 u.2.2.2.1 u.2.2.2.2 ++ (zo_w cA cR cL ad o k1 u9)) hD hS hA (zx_runV (As := [.int (xs (i + 1)), .int (xs (i + 2))]) (rest := []) hx hb hml hts hown hM2 zv_L_109 rfl rfl ⟨Nat.le_of_ble_eq_true rfl, Nat.le_of_ble_eq_true rfl⟩ (zw_preV (q := (RX1, TM1, 9)) (ci := 1) (q0 := 0) hP hK hD rfl rfl) rfl hl.1 rfl (Nat.le_of_ble_eq_true rfl) dL_law_935 ⟨by show cells + 1 + 0 ≤ 601024; omega, by show slots + 6 + 0 ≤ 7293034; omega⟩) (fun r8 v9 H locs hu hP hD hS => ?_)
  obtain ⟨hr8, hpf⟩ := hu
  subst hr8
  refine lv_istore (lv' := [(6, .int (nI (b0))), (5, .int (nI (x))), (0, .ref (b)), (1, .ref (ad 0)), (2, .ref (mo 0)), (3, .ref (o)), (4, .int (nI (i)))]) hx hb dL_law_938 hl (by decide) rfl (fun ls hl => ?_)
  refine lv_aload_n hx hb dL_law_940 rfl (lv_at hl 4 rfl) ?_
  refine zr_callq (zx_runV (As := []) (rest := []) hx hb hml hts hown (cm_thrown l dC dI cA [(cR, .array .int), (cL, .long)] (zo_w cA cR cL ad o k1 u9) mo x k1 v9.1 v9.2.1 v9.2.2.1 v9.2.2.2.1 v9.2.2.2.2 hk1) zv_L_70 rfl rfl ⟨Nat.le_of_ble_eq_true rfl, Nat.le_of_ble_eq_true rfl⟩ (zr_preV (q := (RX1, TM1, 9)) (ci := 1) (q0 := 0) hP hK rfl rfl) rfl hl.1 rfl (Nat.le_of_ble_eq_true rfl) dL_law_941 ⟨by show cells + 1 + 0 ≤ 601024; omega, by show slots + 6 + 0 ≤ 7293034; omega⟩) ?_
  refine lv_iload hx hb dL_law_944 (lv_at hl 1 rfl) ?_
  refine zr_ieq (tgt := 951) hx hb dL_law_946 (by decide) (by omega) (by omega) (fun _ => ?_) (fun hno9 => absurd hno9 (by omega))
  refine lv_iload hx hb dL_law_951 (lv_at hl 1 rfl) ?_
  refine zr_ifne (tgt := 975) hx hb dL_law_953 (by decide) (by omega) (fun hx0 => ?_) (fun hx0 => ?_)
  · refine lv_goto (tgt := 1078) hx hb dL_law_975 (by decide) ?_
    exact kk k1 x u9 v9.1 v9.2.1 v9.2.2.1 v9.2.2.2.1 v9.2.2.2.2 H locs ls hk1 (hrel _ _ _ hpv hpf) (zo_bakP hP) (zo_bakD hD) hS (lv_sub hl [2, 3, 4, 5, 6] rfl)
  · refine lv_aload_n hx hb dL_law_956 rfl (lv_at hl 5 rfl) ?_
    refine lv_iconst (v := nI 0) hx hb dL_law_957 (by decide) ?_
    refine zl_lald (x := a) hx hb hK hP 26 2 rfl rfl (hout hx0) dL_law_958 ?_
    refine lv_iload hx hb dL_law_959 (lv_at hl 0 rfl) ?_
    refine zr_ifeq (tgt := 968) hx hb dL_law_961 (by decide) (by omega) (fun hb0 => ?_) (fun hb0 => ?_)
    · have hb3 : b0 = 0 := by omega
      refine lv_lconst (v := lN 0) hx hb dL_law_968 (by decide) ?_
      refine zl_leq (tgt := 975) hx hb (by rw [hra hx0, hb3]) dL_law_969 dL_law_970 (by decide) ?_
      refine lv_goto (tgt := 1078) hx hb dL_law_975 (by decide) ?_
      exact kk k1 x u9 v9.1 v9.2.1 v9.2.2.1 v9.2.2.2.1 v9.2.2.2.2 H locs ls hk1 (hrel _ _ _ hpv hpf) (zo_bakP hP) (zo_bakD hD) hS (lv_sub hl [2, 3, 4, 5, 6] rfl)
    · have hb3 : b0 = 1 := by omega
      refine lv_lconst (v := lN 1) hx hb dL_law_964 (by decide) ?_
      refine lv_goto (tgt := 969) hx hb dL_law_965 (by decide) ?_
      refine zl_leq (tgt := 975) hx hb (by rw [hra hx0, hb3]) dL_law_969 dL_law_970 (by decide) ?_
      refine lv_goto (tgt := 1078) hx hb dL_law_975 (by decide) ?_
      exact kk k1 x u9 v9.1 v9.2.1 v9.2.2.1 v9.2.2.2.1 v9.2.2.2.2 H locs ls hk1 (hrel _ _ _ hpv hpf) (zo_bakP hP) (zo_bakD hD) hS (lv_sub hl [2, 3, 4, 5, 6] rfl)
set_option maxHeartbeats 4000000 in
set_option maxRecDepth 100000 in
theorem lo_divides {p : Program} {l : Launch} {e : Env} {s : State} {m : MethodId} {below : List Frame} {meth : Method} {c : Code} {H : Heap} {locs : List Loc} {cells slots : Nat} {Q : State → Prop} {ls : Array Slot} {b L i : Nat} {xs : Nat → Int32} {dC : Nat → ClassId} {dI : Nat → Nat → Nat} {cA cR cL : ClassId} {mo ad : Nat → Nat} {o k th : Nat} {S : Nat → Int32} {P : Nat → Nat} {V : Nat → Nat → Nat} {g : Nat → Int64} {F fa fb fc fd : Nat → Nat} (C : zo_C p l s m meth c b L xs dC dI cA cR cL) (hk : k < 4) (hR : zy_R k P V F) (hi : i + 5 ≤ L) (hL : L ≤ 2560) (hcs : cells + 1 ≤ 601024 ∧ slots + 6 ≤ 7293034)
    (hP : va_P (dC, dI) zz_cl (zl_w cA cR cL (zm_w cA mo th k (zk_n k) (zk_t k) F fa fb fc fd) ad o k ((S, P, V, g))) H) (hD : va_D (fun q : Nat => s.heap.size ≤ q) (zl_w cA cR cL (zm_w cA mo th k (zk_n k) (zk_t k) F fa fb fc fd) ad o k ((S, P, V, g)))) (hS : va_S (fun q : Nat => s.heap.size ≤ q) s.heap H locs) (hl : lv_has ls 8 [(0, .ref b), (1, .ref (ad 0)), (2, .ref (mo 0)), (3, .ref o), (4, .int (nI i))]) (kk : zo_K p l e s m below meth c cells slots Q b i dC dI cA cR cL mo ad o) : W p l e room_1 s m #[Value.ref b] below meth c H locs cells slots Q (F0 m 978 ls []) := by
  obtain ⟨hx, hb, hml, hown, hts, hX, hbl, hK, hE, hlt9⟩ := C
  have hA : ∀ q : Nat, s.heap.size ≤ q → (fun q : Nat => s.heap.size ≤ q) q := fun q h => h
  have hbA : ¬ (fun q : Nat => s.heap.size ≤ q) b := fun h => absurd hbl (Nat.not_lt.mpr h)
  obtain ⟨x, a, b0, k1, pv, pf, hC, hM, hx4, hk1, hb2, hra, hrel⟩ := st_divides l hlt9 dC dI cA cR cL [] mo ad o k hk P V F hR (xs (i + 1)) (xs (i + 2))
  refine lv_aload_n hx hb dL_law_978 rfl (lv_at hl 1 rfl) ?_
  refine lv_aload_n hx hb dL_law_979 rfl (lv_at hl 0 rfl) ?_
  refine lv_iload hx hb dL_law_980 (lv_at hl 4 rfl) ?_
  refine lv_iconst (v := nI 1) hx hb dL_law_982 (by decide) ?_
  refine zr_iadd hx hb dL_law_983 ?_
  refine zl_sld hx hb hX hbl hbA hS (by omega) (by omega) dL_law_984 ?_
  refine lv_aload_n hx hb dL_law_985 rfl (lv_at hl 0 rfl) ?_
  refine lv_iload hx hb dL_law_986 (lv_at hl 4 rfl) ?_
  refine lv_iconst (v := nI 2) hx hb dL_law_988 (by decide) ?_
  refine zr_iadd hx hb dL_law_989 ?_
  refine zl_sld hx hb hX hbl hbA hS (by omega) (by omega) dL_law_990 ?_
  refine lv_aload_n hx hb dL_law_991 rfl (lv_at hl 3 rfl) ?_
  refine zl_calli (w' := fun u : zl_U => zl_w cA cR cL (zm_w cA mo th k (zk_n k) (zk_t k) F fa fb fc fd) ad o k1 u) hD hS hA (zx_runSW (n := 4) (As := [.ref (ad 0), .int (xs (i + 1)), .int (xs (i + 2)), .ref (o)]) (rest := []) hx hb hml hts hown (hC (zm_w cA mo th k (zk_n k) (zk_t k) F fa fb fc fd) S g H.size) zl_L_110 zs_L_divides zo_ValueRingLaw zdL_divides (by decide +kernel) rfl rfl ⟨Nat.le_of_ble_eq_true rfl, Nat.le_of_ble_eq_true rfl⟩ (zl_preS hP hK hD hE hS hA) rfl hl.1 rfl (Nat.le_of_ble_eq_true rfl) dL_law_992 hcs) (fun r9 u9 H locs hu hP hD hS => ?_)
  obtain ⟨hr9, hout, hpv⟩ := hu
  subst hr9
  replace hP := zo_rotP hP
  replace hD := zo_rotD hD
  refine lv_istore (lv' := [(5, .int (nI (x))), (0, .ref (b)), (1, .ref (ad 0)), (2, .ref (mo 0)), (3, .ref (o)), (4, .int (nI (i)))]) hx hb dL_law_995 hl (by decide) rfl (fun ls hl => ?_)
  refine lv_aload_n hx hb dL_law_997 rfl (lv_at hl 3 rfl) ?_
  refine lv_aload_n hx hb dL_law_998 rfl (lv_at hl 1 rfl) ?_
  refine lv_iload hx hb dL_law_999 (lv_at hl 5 rfl) ?_
  refine lv_iconst (v := nI 1) hx hb dL_law_1001 (by decide) ?_
  refine zr_iadd hx hb dL_law_1002 ?_
  refine zl_sld hx hb hX hbl hbA hS (by omega) (by omega) dL_law_1003 ?_
  refine lv_aload_n hx hb dL_law_1004 rfl (lv_at hl 1 rfl) ?_
  refine lv_iload hx hb dL_law_1005 (lv_at hl 5 rfl) ?_
  refine lv_iconst (v := nI 2) hx hb dL_law_1007 (by decide) ?_
  refine zr_iadd hx hb dL_law_1008 ?_
  refine zl_sld hx hb hX hbl hbA hS (by omega) (by omega) dL_law_1009 ?_
  have hM2 := hM [(cR, .array .int), (cL, .long)] (zo_w cA cR cL ad o k1 u9) th fa fb fc fd H.size
  unfold zy_M at hM2
  refine zw_calli (w' := fun u : zq_U => zm_w cA mo x k1 (zk_n k1) (zk_t k1) u.1 u.2.1 u.2.2.1 u.2.2.2.1 u.2.2.2.2 ++ (zo_w cA cR cL ad o k1 u9)) hD hS hA (zx_runV (As := [.int (xs (i + 1)), .int (xs (i + 2))]) (rest := []) hx hb hml hts hown hM2 zv_L_112 rfl rfl ⟨Nat.le_of_ble_eq_true rfl, Nat.le_of_ble_eq_true rfl⟩ (zw_preV (q := (RX1, TM1, 9)) (ci := 1) (q0 := 0) hP hK hD rfl rfl) rfl hl.1 rfl (Nat.le_of_ble_eq_true rfl) dL_law_1010 ⟨by show cells + 1 + 0 ≤ 601024; omega, by show slots + 6 + 0 ≤ 7293034; omega⟩) (fun r8 v9 H locs hu hP hD hS => ?_)
  obtain ⟨hr8, hpf⟩ := hu
  subst hr8
  refine lv_istore (lv' := [(6, .int (nI (b0))), (5, .int (nI (x))), (0, .ref (b)), (1, .ref (ad 0)), (2, .ref (mo 0)), (3, .ref (o)), (4, .int (nI (i)))]) hx hb dL_law_1013 hl (by decide) rfl (fun ls hl => ?_)
  refine lv_aload_n hx hb dL_law_1015 rfl (lv_at hl 4 rfl) ?_
  refine zr_callq (zx_runV (As := []) (rest := []) hx hb hml hts hown (cm_thrown l dC dI cA [(cR, .array .int), (cL, .long)] (zo_w cA cR cL ad o k1 u9) mo x k1 v9.1 v9.2.1 v9.2.2.1 v9.2.2.2.1 v9.2.2.2.2 hk1) zv_L_70 rfl rfl ⟨Nat.le_of_ble_eq_true rfl, Nat.le_of_ble_eq_true rfl⟩ (zr_preV (q := (RX1, TM1, 9)) (ci := 1) (q0 := 0) hP hK rfl rfl) rfl hl.1 rfl (Nat.le_of_ble_eq_true rfl) dL_law_1016 ⟨by show cells + 1 + 0 ≤ 601024; omega, by show slots + 6 + 0 ≤ 7293034; omega⟩) ?_
  refine lv_iload hx hb dL_law_1019 (lv_at hl 1 rfl) ?_
  refine zr_ieq (tgt := 1026) hx hb dL_law_1021 (by decide) (by omega) (by omega) (fun _ => ?_) (fun hno9 => absurd hno9 (by omega))
  refine lv_iload hx hb dL_law_1026 (lv_at hl 1 rfl) ?_
  refine zr_ifne (tgt := 1050) hx hb dL_law_1028 (by decide) (by omega) (fun hx0 => ?_) (fun hx0 => ?_)
  · refine lv_goto (tgt := 1078) hx hb dL_law_1050 (by decide) ?_
    exact kk k1 x u9 v9.1 v9.2.1 v9.2.2.1 v9.2.2.2.1 v9.2.2.2.2 H locs ls hk1 (hrel _ _ _ hpv hpf) (zo_bakP hP) (zo_bakD hD) hS (lv_sub hl [2, 3, 4, 5, 6] rfl)
  · refine lv_aload_n hx hb dL_law_1031 rfl (lv_at hl 5 rfl) ?_
    refine lv_iconst (v := nI 0) hx hb dL_law_1032 (by decide) ?_
    refine zl_lald (x := a) hx hb hK hP 26 2 rfl rfl (hout hx0) dL_law_1033 ?_
    refine lv_iload hx hb dL_law_1034 (lv_at hl 0 rfl) ?_
    refine zr_ifeq (tgt := 1043) hx hb dL_law_1036 (by decide) (by omega) (fun hb0 => ?_) (fun hb0 => ?_)
    · have hb3 : b0 = 0 := by omega
      refine lv_lconst (v := lN 0) hx hb dL_law_1043 (by decide) ?_
      refine zl_leq (tgt := 1050) hx hb (by rw [hra hx0, hb3]) dL_law_1044 dL_law_1045 (by decide) ?_
      refine lv_goto (tgt := 1078) hx hb dL_law_1050 (by decide) ?_
      exact kk k1 x u9 v9.1 v9.2.1 v9.2.2.1 v9.2.2.2.1 v9.2.2.2.2 H locs ls hk1 (hrel _ _ _ hpv hpf) (zo_bakP hP) (zo_bakD hD) hS (lv_sub hl [2, 3, 4, 5, 6] rfl)
    · have hb3 : b0 = 1 := by omega
      refine lv_lconst (v := lN 1) hx hb dL_law_1039 (by decide) ?_
      refine lv_goto (tgt := 1044) hx hb dL_law_1040 (by decide) ?_
      refine zl_leq (tgt := 1050) hx hb (by rw [hra hx0, hb3]) dL_law_1044 dL_law_1045 (by decide) ?_
      refine lv_goto (tgt := 1078) hx hb dL_law_1050 (by decide) ?_
      exact kk k1 x u9 v9.1 v9.2.1 v9.2.2.1 v9.2.2.2.1 v9.2.2.2.2 H locs ls hk1 (hrel _ _ _ hpv hpf) (zo_bakP hP) (zo_bakD hD) hS (lv_sub hl [2, 3, 4, 5, 6] rfl)
set_option maxHeartbeats 4000000 in
set_option maxRecDepth 100000 in
theorem lo_count {p : Program} {l : Launch} {e : Env} {s : State} {m : MethodId} {below : List Frame} {meth : Method} {c : Code} {H : Heap} {locs : List Loc} {cells slots : Nat} {Q : State → Prop} {ls : Array Slot} {b L i : Nat} {xs : Nat → Int32} {dC : Nat → ClassId} {dI : Nat → Nat → Nat} {cA cR cL : ClassId} {mo ad : Nat → Nat} {o k th : Nat} {S : Nat → Int32} {P : Nat → Nat} {V : Nat → Nat → Nat} {g : Nat → Int64} {F fa fb fc fd : Nat → Nat} (C : zo_C p l s m meth c b L xs dC dI cA cR cL) (hk : k < 4) (hR : zy_R k P V F) (hi : i + 5 ≤ L) (hL : L ≤ 2560) (hcs : cells + 1 ≤ 601024 ∧ slots + 6 ≤ 7293034)
    (hP : va_P (dC, dI) zz_cl (zl_w cA cR cL (zm_w cA mo th k (zk_n k) (zk_t k) F fa fb fc fd) ad o k ((S, P, V, g))) H) (hD : va_D (fun q : Nat => s.heap.size ≤ q) (zl_w cA cR cL (zm_w cA mo th k (zk_n k) (zk_t k) F fa fb fc fd) ad o k ((S, P, V, g)))) (hS : va_S (fun q : Nat => s.heap.size ≤ q) s.heap H locs) (hl : lv_has ls 8 [(0, .ref b), (1, .ref (ad 0)), (2, .ref (mo 0)), (3, .ref o), (4, .int (nI i))]) (kk : zo_K p l e s m below meth c cells slots Q b i dC dI cA cR cL mo ad o) : W p l e room_1 s m #[Value.ref b] below meth c H locs cells slots Q (F0 m 1053 ls []) := by
  obtain ⟨hx, hb, hml, hown, hts, hX, hbl, hK, hE, hlt9⟩ := C
  have hA : ∀ q : Nat, s.heap.size ≤ q → (fun q : Nat => s.heap.size ≤ q) q := fun q h => h
  have hbA : ¬ (fun q : Nat => s.heap.size ≤ q) b := fun h => absurd hbl (Nat.not_lt.mpr h)
  obtain ⟨r0, hC, hM⟩ := st_count l dC dI cA cR mo ad k hk P V F hR (xs (i + 1))
  refine lv_aload_n hx hb dL_law_1053 rfl (lv_at hl 1 rfl) ?_
  refine lv_aload_n hx hb dL_law_1054 rfl (lv_at hl 0 rfl) ?_
  refine lv_iload hx hb dL_law_1055 (lv_at hl 4 rfl) ?_
  refine lv_iconst (v := nI 1) hx hb dL_law_1057 (by decide) ?_
  refine zr_iadd hx hb dL_law_1058 ?_
  refine zl_sld hx hb hX hbl hbA hS (by omega) (by omega) dL_law_1059 ?_
  refine zr_callq (zx_runV (As := [.int (xs (i + 1))]) (rest := []) hx hb hml hts hown (hC [(cL, .long)] ((o, .inl (cL, 1, .inr (.inl g))) :: (zm_w cA mo th k (zk_n k) (zk_t k) F fa fb fc fd)) S) zv_L_113 rfl rfl ⟨Nat.le_of_ble_eq_true rfl, Nat.le_of_ble_eq_true rfl⟩ (zr_preV (q := (RX0, TX0, 8)) (ci := 0) (q0 := 0) hP hK rfl rfl) rfl hl.1 rfl (Nat.le_of_ble_eq_true rfl) dL_law_1060 ⟨by show cells + 0 ≤ 601024; omega, by show slots + 0 ≤ 7293034; omega⟩) ?_
  replace hP := zo_rotP hP
  replace hD := zo_rotD hD
  refine lv_aload_n hx hb dL_law_1063 rfl (lv_at hl 2 rfl) ?_
  refine lv_aload_n hx hb dL_law_1064 rfl (lv_at hl 0 rfl) ?_
  refine lv_iload hx hb dL_law_1065 (lv_at hl 4 rfl) ?_
  refine lv_iconst (v := nI 1) hx hb dL_law_1067 (by decide) ?_
  refine zr_iadd hx hb dL_law_1068 ?_
  refine zl_sld hx hb hX hbl hbA hS (by omega) (by omega) dL_law_1069 ?_
  have hM2 := hM [(cR, .array .int), (cL, .long)] (zo_w cA cR cL ad o k ((S, P, V, g) : zl_U)) th fa fb fc fd H.size
  unfold zy_M at hM2
  refine zw_calli (w' := fun u : zq_U => zm_w cA mo 0 k (zk_n k) (zk_t k) u.1 u.2.1 u.2.2.1 u.2.2.2.1 u.2.2.2.2 ++ (zo_w cA cR cL ad o k ((S, P, V, g) : zl_U))) hD hS hA (zx_runV (As := [.int (xs (i + 1))]) (rest := [.int r0]) hx hb hml hts hown hM2 zv_L_116 rfl rfl ⟨Nat.le_of_ble_eq_true rfl, Nat.le_of_ble_eq_true rfl⟩ (zw_preV (q := (RX1, TM1, 9)) (ci := 1) (q0 := 0) hP hK hD rfl rfl) rfl hl.1 rfl (Nat.le_of_ble_eq_true rfl) dL_law_1070 ⟨by show cells + 0 ≤ 601024; omega, by show slots + 0 ≤ 7293034; omega⟩) (fun r8 v9 H locs hu hP hD hS => ?_)
  obtain ⟨hr8, hpf⟩ := hu
  subst hr8
  refine lv_icmp_eq (tgt := 1078) hx hb dL_law_1073 (by decide) (fun _ => ?_) (fun h => absurd rfl h)
  refine W.widen (k := cells + 1) (n := slots + 6) (by omega) (by omega) ?_
  exact kk k 0 (S, P, V, g) v9.1 v9.2.1 v9.2.2.1 v9.2.2.2.1 v9.2.2.2.2 H locs ls hk (zy_keep hR ⟨rfl, rfl⟩ hpf) (zo_bakP hP) (zo_bakD hD) hS hl
