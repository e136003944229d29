/-! the law's loop; my own -/
theorem zi_and15 (x : Int32) : ∃ j, j < 16 ∧ x &&& nI 15 = nI j := by
  have h := Jvm.Kit.i32_mask x (nI 15) (k := 4) (by decide) (by decide)
  have h1 := Int.emod_nonneg x.toInt (show (16 : Int) ≠ 0 by decide)
  have h2 := Int.emod_lt_of_pos x.toInt (show (0 : Int) < 16 by decide)
  refine ⟨(x.toInt % 16).toNat, by omega, ?_⟩
  rw [← Int32.toInt_inj]
  refine h.trans ?_
  rw [nI_toInt (by omega)]
  show x.toInt % 16 = _
  omega
set_option maxHeartbeats 4000000 in
set_option maxRecDepth 100000 in
theorem lo_loop {p : Program} {l : Launch} {e : Env} {s : State} {m : MethodId} {below : List Frame} {meth : Method} {c : Code} {b L : Nat} {xs : Nat → Int32} {dC : Nat → ClassId} {dI : Nat → Nat → Nat} {cA cR cL : ClassId} {mo ad : Nat → Nat} {o : Nat} (C : zo_C p l s m meth c b L xs dC dI cA cR cL) (hret : meth.sig.returnType = ret) (hlocks : meth.locks = false) (hL : L ≤ 2560) :
    ∀ (d i : Nat), i + d = L → ∀ (k th : Nat) (u : zl_U) (F fa fb fc fd : Nat → Nat) (H : Heap) (locs : List Loc) (ls : Array Slot), k < 4 → zy_R k u.2.1 u.2.2.1 F → va_P (dC, dI) zz_cl (zl_w cA cR cL (zm_w cA mo th k (zk_n k) (zk_t k) F fa fb fc fd) ad o k u) H → va_D (fun q : Nat => s.heap.size ≤ q) (zl_w cA cR cL (zm_w cA mo th k (zk_n k) (zk_t k) F fa fb fc fd) ad o k u) → va_S (fun q : Nat => s.heap.size ≤ q) s.heap H locs → lv_has ls 8 [(0, .ref b), (1, .ref (ad 0)), (2, .ref (mo 0)), (3, .ref o), (4, .int (nI i))] → W p l e room_1 s m #[Value.ref b] below meth c H locs (100 + i) (2000 + 6 * i) (lw_Z below #[Value.ref b] s) (F0 m 23 ls []) := by
  obtain ⟨hx, hb, hml, hown, hts, hX, hbl, hK, hE, hlt9⟩ := id C
  have hA : ∀ q : Nat, s.heap.size ≤ q → (fun q : Nat => s.heap.size ≤ q) q := fun q h => h
  have hbA : ¬ (fun q : Nat => s.heap.size ≤ q) b := fun h => absurd hbl (Nat.not_lt.mpr h)
  intro d
  induction d using Nat.strongRecOn with
  | _ d ih =>
    intro i hid k th u F fa fb fc fd H locs ls hk hR hP hD hS hl
    refine lv_iload hx hb dL_law_23 (lv_at hl 4 rfl) ?_
    refine lv_aload_n hx hb dL_law_25 rfl (lv_at hl 0 rfl) ?_
    refine va_slen hx hb hX hbl hbA hS dL_law_26 ?_
    refine lv_iconst (v := nI 5) hx hb dL_law_27 (by decide) ?_
    refine zr_isubZ hx hb dL_law_28 ?_
    have hcmp : zi_I (((L : Nat) : Int) - ((5 : Nat) : Int)) < nI i ↔ ((L : Nat) : Int) - ((5 : Nat) : Int) < ((i : Nat) : Int) := by
      rw [zi_nI, zi_lt (by omega) (by omega) (by omega) (by omega)]
    refine lv_icmp_gt (tgt := 1084) hx hb dL_law_29 (by decide) (fun hh => ?_) (fun hh => ?_)
    · refine lv_iconst (v := 1) hx hb dL_law_1084 (by decide) ?_
      refine va_forget (fun q hq => hS.2.2 q hq) ?_
      refine W.widen (k := 601024) (n := 7293034) (by omega) (by omega) ?_
      exact lw_ret hx hb hret hlocks dL_law_1085
    · rw [hcmp] at hh
      have hi5 : i + 5 ≤ L := by omega
      refine lv_aload_n hx hb dL_law_32 rfl (lv_at hl 0 rfl) ?_
      refine lv_iload hx hb dL_law_33 (lv_at hl 4 rfl) ?_
      refine zl_sld hx hb hX hbl hbA hS (by omega) (by omega) dL_law_35 ?_
      refine lv_bipush (v := nI 15) hx hb dL_law_36 (by decide) ?_
      refine lv_iand hx hb dL_law_38 ?_
      have KK : zo_K p l e s m below meth c (100 + i) (2000 + 6 * i) (lw_Z below #[Value.ref b] s) b i dC dI cA cR cL mo ad o := by
        intro k th u F fa fb fc fd H locs ls hk hR hP hD hS hl
        refine lv_iinc (k := 4) (v := nI (i + 5)) (lv' := [(4, .int (nI (i + 5))), (0, .ref b), (1, .ref (ad 0)), (2, .ref (mo 0)), (3, .ref o)]) hx hb dL_law_1078 hl rfl (by rw [show Int32.ofInt 5 = nI 5 by decide]; exact nI_add i 5) (by decide) rfl (fun ls hl => ?_)
        refine lv_goto (tgt := 23) hx hb dL_law_1081 (by decide) ?_
        refine W.widen (k := 100 + (i + 5)) (n := 2000 + 6 * (i + 5)) (by omega) (by omega) ?_
        exact ih (d - 5) (by omega) (i + 5) (by omega) k th u F fa fb fc fd H locs ls hk hR hP hD hS (lv_sub hl [1, 2, 3, 4, 0] rfl)
      obtain ⟨j, hj, ej⟩ := zi_and15 (xs i)
      rw [ej]
      have hcs : 100 + i + 1 ≤ 601024 ∧ 2000 + 6 * i + 6 ≤ 7293034 := by omega
      rcases (show j = 0 ∨ j = 1 ∨ j = 2 ∨ j = 3 ∨ j = 4 ∨ j = 5 ∨ j = 6 ∨ j = 7 ∨ j = 8 ∨ j = 9 ∨ j = 10 ∨ j = 11 ∨ j = 12 ∨ j = 13 ∨ j = 14 ∨ j = 15 by omega) with rfl | rfl | rfl | rfl | rfl | rfl | rfl | rfl | rfl | rfl | rfl | rfl | rfl | rfl | rfl | rfl
      · refine lv_tableIn (tgt := 108) (off := 69) hx hb dL_law_39 (by decide) (by decide) (by decide) (by decide) ?_
        exact lo_begin (S := u.1) (P := u.2.1) (V := u.2.2.1) (g := u.2.2.2) C hk hR hi5 hL hcs hP hD hS hl KK
      · refine lv_tableIn (tgt := 164) (off := 125) hx hb dL_law_39 (by decide) (by decide) (by decide) (by decide) ?_
        exact lo_set (S := u.1) (P := u.2.1) (V := u.2.2.1) (g := u.2.2.2) C hk hR hi5 hL hcs hP hD hS hl KK
      · refine lv_tableIn (tgt := 244) (off := 205) hx hb dL_law_39 (by decide) (by decide) (by decide) (by decide) ?_
        exact lo_get (S := u.1) (P := u.2.1) (V := u.2.2.1) (g := u.2.2.2) C hk hR hi5 hL hcs hP hD hS hl KK
      · refine lv_tableIn (tgt := 312) (off := 273) hx hb dL_law_39 (by decide) (by decide) (by decide) (by decide) ?_
        exact lo_setValue (S := u.1) (P := u.2.1) (V := u.2.2.1) (g := u.2.2.2) C hk hR hi5 hL hcs hP hD hS hl KK
      · refine lv_tableIn (tgt := 392) (off := 353) hx hb dL_law_39 (by decide) (by decide) (by decide) (by decide) ?_
        exact lo_value (S := u.1) (P := u.2.1) (V := u.2.2.1) (g := u.2.2.2) C hk hR hi5 hL hcs hP hD hS hl KK
      · refine lv_tableIn (tgt := 460) (off := 421) hx hb dL_law_39 (by decide) (by decide) (by decide) (by decide) ?_
        exact lo_join (S := u.1) (P := u.2.1) (V := u.2.2.1) (g := u.2.2.2) C hk hR hi5 hL hcs hP hD hS hl KK
      · refine lv_tableIn (tgt := 552) (off := 513) hx hb dL_law_39 (by decide) (by decide) (by decide) (by decide) ?_
        exact lo_turn (S := u.1) (P := u.2.1) (V := u.2.2.1) (g := u.2.2.2) C hk hR hi5 hL hcs hP hD hS hl KK
      · refine lv_tableIn (tgt := 632) (off := 593) hx hb dL_law_39 (by decide) (by decide) (by decide) (by decide) ?_
        exact lo_power (S := u.1) (P := u.2.1) (V := u.2.2.1) (g := u.2.2.2) C hk hR hi5 hL hcs hP hD hS hl KK
      · refine lv_tableIn (tgt := 712) (off := 673) hx hb dL_law_39 (by decide) (by decide) (by decide) (by decide) ?_
        exact lo_root (S := u.1) (P := u.2.1) (V := u.2.2.1) (g := u.2.2.2) C hk hR hi5 hL hcs hP hD hS hl KK
      · refine lv_tableIn (tgt := 779) (off := 740) hx hb dL_law_39 (by decide) (by decide) (by decide) (by decide) ?_
        exact lo_order (S := u.1) (P := u.2.1) (V := u.2.2.1) (g := u.2.2.2) C hk hR hi5 hL hcs hP hD hS hl KK
      · refine lv_tableIn (tgt := 835) (off := 796) hx hb dL_law_39 (by decide) (by decide) (by decide) (by decide) ?_
        exact lo_about (S := u.1) (P := u.2.1) (V := u.2.2.1) (g := u.2.2.2) C hk hR hi5 hL hcs hP hD hS hl KK
      · refine lv_tableIn (tgt := 903) (off := 864) hx hb dL_law_39 (by decide) (by decide) (by decide) (by decide) ?_
        exact lo_same (S := u.1) (P := u.2.1) (V := u.2.2.1) (g := u.2.2.2) C hk hR hi5 hL hcs hP hD hS hl KK
      · refine lv_tableIn (tgt := 978) (off := 939) hx hb dL_law_39 (by decide) (by decide) (by decide) (by decide) ?_
        exact lo_divides (S := u.1) (P := u.2.1) (V := u.2.2.1) (g := u.2.2.2) C hk hR hi5 hL hcs hP hD hS hl KK
      · refine lv_tableIn (tgt := 1053) (off := 1014) hx hb dL_law_39 (by decide) (by decide) (by decide) (by decide) ?_
        exact lo_count (S := u.1) (P := u.2.1) (V := u.2.2.1) (g := u.2.2.2) C hk hR hi5 hL hcs hP hD hS hl KK
      · refine lv_tableOut (tgt := 1078) hx hb dL_law_39 (by decide) (by decide) ?_
        refine W.widen (k := 100 + i + 1) (n := 2000 + 6 * i + 6) (by omega) (by omega) ?_
        exact KK k th u F fa fb fc fd H locs ls hk hR hP hD hS hl
      · refine lv_tableOut (tgt := 1078) hx hb dL_law_39 (by decide) (by decide) ?_
        refine W.widen (k := 100 + i + 1) (n := 2000 + 6 * i + 6) (by omega) (by omega) ?_
        exact KK k th u F fa fb fc fd H locs ls hk hR hP hD hS hl
