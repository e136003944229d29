/-! the spare row copied into a register; Arrays.fill; my own -/
theorem zz_acS : Cond.static arraycopyName ∈ zz_w := zz_at 307 (by decide +kernel) (by decide +kernel)
theorem zz_acN : Cond.native arraycopyName ∈ zz_w := zz_at 308 (by decide +kernel) (by decide +kernel)
def zq_cp (V : Nat → Nat → Nat) (to n : Nat) (f : Nat → Nat) : Nat → Nat → Nat := zq_vp V to (fun j => if j < n then f j else V to j)
theorem zq_cp_ri (V : Nat → Nat → Nat) (to n : Nat) (f : Nat → Nat) : zq_ri V to f n (zq_cp V to n f) := by
  refine ⟨fun r j hr => ?_, fun j hj => ?_⟩
  · unfold zq_cp
    by_cases e : r = to
    · subst e
      rw [zq_vp_s, if_neg (by omega)]
    · rw [zq_vp_n _ _ e]
  · unfold zq_cp
    rw [zq_vp_s, if_pos hj]
theorem zq_cpy {S : Nat → Int32} {f g : Nat → Nat} {n : Nat} (hn : n < 2147483648) (h : ∀ j, j < n → S j = nI (f j)) : va_cpy S (zq_I g) (nI 0).toNatClampNeg (nI 0).toNatClampNeg (nI n).toNatClampNeg = zq_I (fun j => if j < n then f j else g j) := by
  rw [nI_clamp (show 0 < 2 ^ 31 by decide), nI_clamp (show n < 2 ^ 31 by omega)]
  funext j
  by_cases hj : j < n
  · rw [pk_cpy_in (Nat.zero_le _) (by omega), Nat.sub_zero, Nat.zero_add, h j hj]
    show nI (f j) = nI (if j < n then f j else g j)
    rw [if_pos hj]
  · rw [pk_cpy_out (Or.inr (by omega))]
    show nI (g j) = nI (if j < n then f j else g j)
    rw [if_neg hj]
theorem zl_self {α : Type} {l : List α} {q : Nat} {x : α} (h : l[q]? = some x) : l.set q x = l := by
  apply List.ext_getElem?
  intro i
  rw [List.getElem?_set]
  by_cases e : q = i
  · subst e
    have hl := (List.getElem?_eq_some_iff.mp h).1
    rw [if_pos rfl, if_pos hl, h]
  · rw [if_neg e]
theorem zl_at {α : Type} {l : List α} {q : Nat} {x : α} (h : l[q]? = some x) (y : α) : (l.set q y)[q]? = some y := by
  have hl := (List.getElem?_eq_some_iff.mp h).1
  rw [List.getElem?_set, if_pos rfl, if_pos hl]
section ZC
variable {p : Program} {l : Launch} {e : Env} {R : Room} {s : State} {m : MethodId} {args : Array Value} {below : List Frame} {meth : Method} {c : Code} {H : Heap} {locs : List Loc} {cells slots : Nat} {Q : State → Prop}
variable {cc : ByteArray} {pc : Nat} {ls : Array Slot} {D : va_G} {A : Nat → Prop} {H0 : Heap}
theorem zx_copy {c0 : Cond} {cA cR : ClassId} {tr : List (ClassId × FieldType)} {wr : va_W} {ad : Nat → Nat} {kd n t z v : Nat} {S : Nat → Int32} {P : Nat → Nat} {V : Nat → Nat → Nat} {x1 : Nat} {f : Nat → Nat} (hexec : p.tables.exec = Jvm.exec) (hb : c.code = cc) (hml : c.maxLocals = ls.size) (hts : ∀ w ∈ c0 :: zz_w, w.before args s = true) (hown : s.vm.findClass RX0 = some m.cls)
    (hK : va_K D zz_cl ((cA, .int) :: (cR, .array .int) :: tr) s) (hP : va_P D zz_cl (zc_w cA cR ad kd n t z v S P V ++ wr) H) (hD : va_D A (zc_w cA cR ad kd n t z v S P V ++ wr)) (hS : va_S A H0 H locs) (hx1 : x1 < 16) (hn : n ≤ 32) (hf : ∀ j, j < n → S j = nI (f j)) (hRf : 1 ≤ R.frames) (hRl : nativeFrameWords "java/lang/System" "arraycopy" 5 + 11 ≤ R.locals) (hdg : decode cc pc = .ok (.invokestatic 82, 3))
    (kk : ∀ (H1 : Heap) (locs1 : List Loc), va_P D zz_cl (zc_w cA cR ad kd n t z v S P (zq_cp V x1 n f) ++ wr) H1 → va_D A (zc_w cA cR ad kd n t z v S P (zq_cp V x1 n f) ++ wr) → va_S A H0 H1 locs1 → W p l e R s m args below meth c H1 locs1 cells slots Q (F0 m (pc + 3) ls [])) :
    W p l e R s m args below meth c H locs cells slots Q (F0 m pc ls [.int (nI n), .int (nI 0), .ref (ad (4 + x1)), .int (nI 0), .ref (ad 2)]) := by
  refine va_copyi (rest := []) (ty := .int) hexec hb hml hown (hts _ (List.mem_cons_of_mem _ zl_X0_82)) (hts _ (List.mem_cons_of_mem _ zz_acN)) (hts _ (List.mem_cons_of_mem _ zz_acS)) (hts _ (List.mem_cons_of_mem _ zo_java_lang_System)) hK hP hD hS 2 (4 + x1) 0 0 rfl (zc_row hx1) rfl rfl rfl (by decide) (by decide) (nI_pos (by omega)) (by rw [nI_clamp (show 0 < 2 ^ 31 by decide), nI_clamp (show n < 2 ^ 31 by omega)]; omega) (by rw [nI_clamp (show 0 < 2 ^ 31 by decide), nI_clamp (show n < 2 ^ 31 by omega)]; omega) (fun i _ => rfl) hRf (by simpa using hRl) hdg (fun H1 locs1 h1 h2 h3 => ?_)
  rw [zq_cpy (by omega) hf, zc_set hx1] at h1 h2
  exact kk H1 locs1 h1 h2 h3
end ZC
set_option maxHeartbeats 4000000 in
set_option maxRecDepth 100000 in
/-- Arrays.fill(int[], int): every place holds x -/
theorem cJ_fill (l : Launch) (D : va_G) (cl : List vw_C) (cA : ClassId) (tr : List (ClassId × FieldType)) (ws : va_W) (q b N x : Nat) (F : Nat → Nat) (sz : Nat) (hq : ws[q]? = some (b, .inl (cA, N, .inl (zq_I F)))) (hN : N < 2147483648) : Met l yJ7_fill_53178 wzJ7_fill_53178 (k2_rm 0 0) (zw_pre D cl ((cA, .int) :: tr) ws sz [.ref b, .int (nI x)]) (va_Qv (fun F1 : Nat → Nat => ∀ j, j < N → F1 j = x) (zw_at D cl ((cA, .int) :: tr) (va_A ws sz) (fun F1 => ws.set q (b, .inl (cA, N, .inl (zq_I F1))))) (va_A ws sz)) 0 0 (va_A ws sz) := by
  refine va_MetF (cc := cJ7_fill_53178) (maxL := 4) (ret := none) (by decide +kernel) rfl ?_
  intro p e s m args below meth c s₁ B hml hv
  obtain ⟨rfl, hsz, hP, hK, hD0⟩ := hv
  have hx := B.exec
  have hb := B.bytes
  have hr := B.returns
  have hlocks := B.notSynchronized
  subst hsz
  have hD := hD0.self (sz := s.heap.size)
  generalize hAe : va_A ws s.heap.size = A at hD ⊢
  have hS : va_S A s.heap s.heap [] := va_S.rf
  have hl := lv_entry ([.ref b, .int (nI x)]) (n := 4) (Nat.le_of_ble_eq_true rfl)
  rw [lg_entry_eq]
  generalize (lg_sl ([.ref b, .int (nI x)]) ++ List.replicate (4 - (lg_sl ([.ref b, .int (nI x)])).length) Slot.unset).toArray = ls at hl ⊢
  have hl : lv_has ls 4 [(0, .ref b), (1, .int (nI x))] := hl
  refine lv_iconst (v := nI 0) hx hb dJ7_fill_53178_0 (by decide) ?_
  refine lv_istore_n (lv' := [(2, .int (nI 0)), (0, .ref b), (1, .int (nI x))]) hx hb dJ7_fill_53178_1 rfl hl (by decide) rfl (fun ls hl => ?_)
  refine lv_aload_n hx hb dJ7_fill_53178_2 rfl (lv_at hl 1 rfl) ?_
  refine va_alen (v := nI N) hx hb hK hP q 0 hq rfl rfl dJ7_fill_53178_3 ?_
  refine lv_istore_n (lv' := [(3, .int (nI N)), (2, .int (nI 0)), (0, .ref b), (1, .int (nI x))]) hx hb dJ7_fill_53178_4 rfl hl (by decide) rfl (fun ls hl => ?_)
  have loop : ∀ (d i : Nat), i + d = N → ∀ (F1 : Nat → Nat), (∀ j, j < i → F1 j = x) → ∀ (H : Heap) (locs : List Loc), va_P D cl (ws.set q (b, .inl (cA, N, .inl (zq_I F1)))) H → va_D A (ws.set q (b, .inl (cA, N, .inl (zq_I F1)))) → va_S A s.heap H locs → ∀ ls, lv_has ls 4 [(0, .ref b), (1, .int (nI x)), (2, .int (nI i)), (3, .int (nI N))] → W p l e (headSpec wzJ7_fill_53178 (k2_rm 0 0)).room s m ([.ref b, .int (nI x)] : List Value).toArray below meth c H locs 0 0 (MQ below (va_Qv (fun F1 : Nat → Nat => ∀ j, j < N → F1 j = x) (zw_at D cl ((cA, .int) :: tr) A (fun F1 => ws.set q (b, .inl (cA, N, .inl (zq_I F1))))) A) ([.ref b, .int (nI x)] : List Value).toArray s 0 0 A) (F0 m 5 ls []) := by
    intro d
    induction d with
    | zero =>
      intro i hi F1 hF H locs hP hD hS ls hl
      refine lv_iload_n hx hb dJ7_fill_53178_5 rfl (lv_at hl 2 rfl) ?_
      refine lv_iload_n hx hb dJ7_fill_53178_6 rfl (lv_at hl 3 rfl) ?_
      refine zr_ige (tgt := 20) hx hb dJ7_fill_53178_7 (by decide) (by omega) (by omega) (fun _ => ?_) (fun hh => absurd hh (by omega))
      exact W.vret hx hb hr (fun t9 h9 hW9 => ⟨⟨F1, rfl, fun j hj => hF j (by omega), by rw [h9]; exact hP, va_K.moved hW9.alike hK, hD⟩, hS.F h9⟩) hS.2.2 dJ7_fill_53178_20
    | succ d ih =>
      intro i hi F1 hF H locs hP hD hS ls hl
      refine lv_iload_n hx hb dJ7_fill_53178_5 rfl (lv_at hl 2 rfl) ?_
      refine lv_iload_n hx hb dJ7_fill_53178_6 rfl (lv_at hl 3 rfl) ?_
      refine zr_ige (tgt := 20) hx hb dJ7_fill_53178_7 (by decide) (by omega) (by omega) (fun hh => absurd hh (by omega)) (fun _ => ?_)
      refine lv_aload_n hx hb dJ7_fill_53178_10 rfl (lv_at hl 0 rfl) ?_
      refine lv_iload_n hx hb dJ7_fill_53178_11 rfl (lv_at hl 2 rfl) ?_
      refine lv_iload_n hx hb dJ7_fill_53178_12 rfl (lv_at hl 1 rfl) ?_
      refine zr_iast (ws' := ws.set q (b, .inl (cA, N, .inl (zq_I (zq_up F1 i x))))) hx hb hK hP hD hS q 0 (zl_at hq _) rfl (by omega) (by omega) dJ7_fill_53178_13 (by rw [List.set_set]) (fun H locs hP hD hS => ?_)
      refine zr_iinc (k := 2) (lv' := [(2, .int (nI (i + 1))), (0, .ref b), (1, .int (nI x)), (3, .int (nI N))]) hx hb dJ7_fill_53178_14 hl rfl (by decide) rfl (fun ls hl => ?_)
      refine lv_goto (tgt := 5) hx hb dJ7_fill_53178_17 (by decide) ?_
      refine ih (i + 1) (by omega) (zq_up F1 i x) (fun j hj => ?_) H locs hP hD hS ls (lv_sub hl [1, 2, 0, 3] rfl)
      by_cases e9 : j = i
      · rw [e9, zq_up_s]
      · rw [zq_up_n _ _ e9]
        exact hF j (by omega)
  exact loop N 0 (by omega) F (fun j hj => absurd hj (Nat.not_lt_zero _)) s.heap [] (by rw [zl_self hq]; exact hP) (by rw [zl_self hq]; exact hD) hS ls (lv_sub hl [2, 3, 1, 0] rfl)
