set_option maxHeartbeats 4000000 in
set_option maxRecDepth 100000 in
/-- raise(f, e) -/
theorem cm_raise2 (l : Launch) (dC : Nat → ClassId) (dI : Nat → Nat → Nat) (cA : ClassId) (tr : List (ClassId × FieldType)) (wr : va_W) (mo : Nat → Nat) (th k : Nat) (F fa fb fc fd : Nat → Nat) (hk : k < 4) (sz : Nat) (e0 : Nat) (he0 : e0 < 4294967296) (hG : ∀ j, j < zk_n k → fa j < zk_t k) : Met l yX1_raise wzX1_raise (k2_rm 2 48) (zw_pre (dC, dI) zz_cl ((cA, .int) :: tr) (zm_w cA mo th k (zk_n k) (zk_t k) F fa fb fc fd ++ wr) sz [.ref (mo 0), .ref (mo 2), .long (lN (e0))]) (va_Qv (fun (u : (Nat → Nat) × (Nat → Nat) × (Nat → Nat)) => (∀ j, j < zk_n k → u.1 j < zk_t k) ∧ ∀ i, i < zk_n k → zq_av k u.1 i = zq_av k fa i ^ e0 % zk_t k) (zw_at (dC, dI) zz_cl ((cA, .int) :: tr) (va_A (zm_w cA mo th k (zk_n k) (zk_t k) F fa fb fc fd ++ wr) sz) (fun (u : (Nat → Nat) × (Nat → Nat) × (Nat → Nat)) => zm_w cA mo th k (zk_n k) (zk_t k) F u.1 fb u.2.1 u.2.2 ++ wr)) (va_A (zm_w cA mo th k (zk_n k) (zk_t k) F fa fb fc fd ++ wr) sz)) 0 0 (va_A (zm_w cA mo th k (zk_n k) (zk_t k) F fa fb fc fd ++ wr) sz) := by
  refine Met.ofW (cc := cX1_raise) (maxL := 7) (ret := none) (by decide) rfl ?_
  intro p e s m args below meth c s₁ B hml hv
  obtain ⟨rfl, hsz, hP, hK, hD0⟩ := hv
  have hx := B.exec
  have hb := B.bytes
  have hr := B.returns
  have hts := atoms_spec (ws := wzX1_raise) B.pre
  have hown : s.vm.findClass RX1 = some m.cls := findClass_of_methodNamed B.named
  have hlocks := B.notSynchronized
  subst hsz
  have hD := hD0.self (sz := s.heap.size)
  generalize hAe : va_A (zm_w cA mo th k (zk_n k) (zk_t k) F fa fb fc fd ++ wr) s.heap.size = A at hD ⊢
  have hA : ∀ q : Nat, s.heap.size ≤ q → A q := fun q h => by rw [← hAe]; exact Or.inr h
  have hS : va_S A s.heap s.heap [] := va_S.rf
  have hl := lv_entry ([.ref (mo 0), .ref (mo 2), .long (lN (e0))]) (n := 7) (Nat.le_of_ble_eq_true rfl)
  rw [lg_entry_eq]
  generalize (lg_sl ([.ref (mo 0), .ref (mo 2), .long (lN (e0))]) ++ List.replicate (7 - (lg_sl ([.ref (mo 0), .ref (mo 2), .long (lN (e0))])).length) Slot.unset).toArray = ls at hl ⊢
  have hl : lv_has ls 7 [(0, .ref (mo 0)), (1, .ref (mo 2)), (2, .long (lN (e0)))] := hl
  obtain ⟨hb1, hb2, hb3, hb4, hb5, hb6, hb7, hb8⟩ := zk_b k hk
  have fin : ∀ (Gc Gd : Nat → Nat), (∀ j, j < zk_n k → Gd j < zk_t k) → (∀ i, i < zk_n k → zq_av k Gd i = zq_av k fa i ^ e0 % zk_t k) → ∀ (d i : Nat), i + d = zk_n k → ∀ (Gf : Nat → Nat), (∀ j, j < i → Gf j = Gd j) → ∀ (H : Heap) (locs : List Loc), va_P (dC, dI) zz_cl (zm_w cA mo th k (zk_n k) (zk_t k) F Gf fb Gc Gd ++ wr) H → va_D A (zm_w cA mo th k (zk_n k) (zk_t k) F Gf fb Gc Gd ++ wr) → va_S A s.heap H locs → ∀ ls, lv_has ls 7 [(0, .ref (mo 0)), (1, .ref (mo 2)), (2, .long (lN (e0))), (4, .int (nI (i)))] → W p l e (headSpec wzX1_raise (k2_rm 2 48)).room s m ([.ref (mo 0), .ref (mo 2), .long (lN (e0))] : List Value).toArray below meth c H locs 0 0 (MQ below (va_Qv (fun (u : (Nat → Nat) × (Nat → Nat) × (Nat → Nat)) => (∀ j, j < zk_n k → u.1 j < zk_t k) ∧ ∀ i, i < zk_n k → zq_av k u.1 i = zq_av k fa i ^ e0 % zk_t k) (zw_at (dC, dI) zz_cl ((cA, .int) :: tr) A (fun (u : (Nat → Nat) × (Nat → Nat) × (Nat → Nat)) => zm_w cA mo th k (zk_n k) (zk_t k) F u.1 fb u.2.1 u.2.2 ++ wr)) A) ([.ref (mo 0), .ref (mo 2), .long (lN (e0))] : List Value).toArray s 0 0 A) (F0 m 142 ls []) := by
    intro Gc Gd hd1 hd2
    have loop : ∀ (d i : Nat), i + d = zk_n k → ∀ (Gf : Nat → Nat), (∀ j, j < i → Gf j = Gd j) → ∀ (H : Heap) (locs : List Loc), va_P (dC, dI) zz_cl (zm_w cA mo th k (zk_n k) (zk_t k) F Gf fb Gc Gd ++ wr) H → va_D A (zm_w cA mo th k (zk_n k) (zk_t k) F Gf fb Gc Gd ++ wr) → va_S A s.heap H locs → ∀ ls, lv_has ls 7 [(0, .ref (mo 0)), (1, .ref (mo 2)), (2, .long (lN (e0))), (4, .int (nI (i)))] → W p l e (headSpec wzX1_raise (k2_rm 2 48)).room s m ([.ref (mo 0), .ref (mo 2), .long (lN (e0))] : List Value).toArray below meth c H locs 0 0 (MQ below (va_Qv (fun (u : (Nat → Nat) × (Nat → Nat) × (Nat → Nat)) => (∀ j, j < zk_n k → u.1 j < zk_t k) ∧ ∀ i, i < zk_n k → zq_av k u.1 i = zq_av k fa i ^ e0 % zk_t k) (zw_at (dC, dI) zz_cl ((cA, .int) :: tr) A (fun (u : (Nat → Nat) × (Nat → Nat) × (Nat → Nat)) => zm_w cA mo th k (zk_n k) (zk_t k) F u.1 fb u.2.1 u.2.2 ++ wr)) A) ([.ref (mo 0), .ref (mo 2), .long (lN (e0))] : List Value).toArray s 0 0 A) (F0 m 142 ls []) := by
      intro d
      induction d with
      | zero =>
        intro i hi Gf hinv H locs hP hD hS ls hl
        have hi : i = zk_n k := by omega
        rw [hi] at hinv
        refine lv_iload hx hb dX1_raise_142 (lv_at hl 3 rfl) ?_
        refine lv_aload_n hx hb dX1_raise_144 rfl (lv_at hl 0 rfl) ?_
        refine zx_get1 (v := .int (nI (zk_n k))) hx hb hts hown hK hP 0 rfl 2 (by decide) zf_X1_7 rfl dX1_raise_145 ?_
        refine zr_ige (tgt := 168) hx hb dX1_raise_148 (by decide) (by omega) (by omega) (fun _ => ?_) (fun hno9 => absurd hno9 (by omega))
        exact W.vret hx hb hr (fun t9 h9 hW9 => ⟨⟨(Gf, Gc, Gd), rfl, ⟨fun j hj => by show Gf j < _; rw [hinv j hj]; exact hd1 j hj, fun i hi9 => (zq_av_congr (fun j hj => hinv j hj) i).trans (hd2 i hi9)⟩, by rw [h9]; exact hP, va_K.moved hW9.alike hK, hD⟩, hS.F h9⟩) hS.2.2 dX1_raise_168
      | succ d ih =>
        intro i hi Gf hinv H locs hP hD hS ls hl
        refine lv_iload hx hb dX1_raise_142 (lv_at hl 3 rfl) ?_
        refine lv_aload_n hx hb dX1_raise_144 rfl (lv_at hl 0 rfl) ?_
        refine zx_get1 (v := .int (nI (zk_n k))) hx hb hts hown hK hP 0 rfl 2 (by decide) zf_X1_7 rfl dX1_raise_145 ?_
        refine zr_ige (tgt := 168) hx hb dX1_raise_148 (by decide) (by omega) (by omega) (fun hno9 => absurd hno9 (by omega)) (fun _ => ?_)
        refine lv_aload_n hx hb dX1_raise_151 rfl (lv_at hl 1 rfl) ?_
        refine lv_iload hx hb dX1_raise_152 (lv_at hl 3 rfl) ?_
        refine lv_aload_n hx hb dX1_raise_154 rfl (lv_at hl 0 rfl) ?_
        refine zx_get1 (v := .ref (mo 5)) hx hb hts hown hK hP 0 rfl 8 (by decide) zf_X1_29 rfl dX1_raise_155 ?_
        refine lv_iload hx hb dX1_raise_158 (lv_at hl 3 rfl) ?_
        refine zr_iald (y := Gd i) hx hb hK hP 5 0 rfl rfl (by omega) (by decide) rfl dX1_raise_160 ?_
        refine zr_iast (ws' := (zm_w cA mo th k (zk_n k) (zk_t k) F (zq_up Gf i (Gd i)) fb Gc Gd ++ wr)) hx hb hK hP hD hS 2 0 rfl rfl (by omega) (by decide) dX1_raise_161 rfl (fun H locs hP hD hS => ?_)
        refine zr_iinc (k := 3) (lv' := [(4, .int (nI (i + 1))), (0, .ref (mo 0)), (1, .ref (mo 2)), (2, .long (lN (e0)))]) hx hb dX1_raise_162 hl rfl (by decide) rfl (fun ls hl => ?_)
        refine lv_goto (tgt := 142) hx hb dX1_raise_165 (by decide) ?_
        refine ih (i + 1) (by omega) _ (fun j hj => ?_) H locs hP hD hS ls (lv_sub hl [1, 2, 3, 0] rfl)
        by_cases e9 : j = i
        · rw [e9, zq_up_s]
        · rw [zq_up_n _ _ e9]; exact hinv j (by omega)
    exact loop
  have main : ∀ (q : Nat), q < 4294967296 → ∀ (Gf Gc Gd : Nat → Nat), (∀ j, j < zk_n k → Gf j < zk_t k) → (∀ j, j < zk_n k → Gd j < zk_t k) → (∀ i, i < zk_n k → zq_av k Gd i * zq_av k Gf i ^ q % zk_t k = zq_av k fa i ^ e0 % zk_t k) → ∀ (H : Heap) (locs : List Loc), va_P (dC, dI) zz_cl (zm_w cA mo th k (zk_n k) (zk_t k) F Gf fb Gc Gd ++ wr) H → va_D A (zm_w cA mo th k (zk_n k) (zk_t k) F Gf fb Gc Gd ++ wr) → va_S A s.heap H locs → ∀ ls, lv_has ls 7 [(0, .ref (mo 0)), (1, .ref (mo 2)), (2, .long (lN (e0))), (4, .long (lN (q)))] → W p l e (headSpec wzX1_raise (k2_rm 2 48)).room s m ([.ref (mo 0), .ref (mo 2), .long (lN (e0))] : List Value).toArray below meth c H locs 0 0 (MQ below (va_Qv (fun (u : (Nat → Nat) × (Nat → Nat) × (Nat → Nat)) => (∀ j, j < zk_n k → u.1 j < zk_t k) ∧ ∀ i, i < zk_n k → zq_av k u.1 i = zq_av k fa i ^ e0 % zk_t k) (zw_at (dC, dI) zz_cl ((cA, .int) :: tr) A (fun (u : (Nat → Nat) × (Nat → Nat) × (Nat → Nat)) => zm_w cA mo th k (zk_n k) (zk_t k) F u.1 fb u.2.1 u.2.2 ++ wr)) A) ([.ref (mo 0), .ref (mo 2), .long (lN (e0))] : List Value).toArray s 0 0 A) (F0 m 38 ls []) := by
    intro q
    induction q using Nat.strongRecOn with
    | _ q ih =>
      intro hq Gf Gc Gd hf hd hpw H locs hP hD hS ls hl
      have sq2 : 0 < q → ∀ (Gc1 Gd1 : Nat → Nat), (∀ j, j < zk_n k → Gc1 j = zq_tm k Gf Gf j) → (∀ j, j < zk_n k → Gd1 j < zk_t k) → (∀ i, i < zk_n k → zq_av k Gd1 i * (zq_av k Gf i * zq_av k Gf i % zk_t k) ^ (q / 2) % zk_t k = zq_av k fa i ^ e0 % zk_t k) → ∀ (d i : Nat), i + d = zk_n k → ∀ (G2 : Nat → Nat), (∀ j, j < i → G2 j = Gc1 j) → ∀ (H : Heap) (locs : List Loc), va_P (dC, dI) zz_cl (zm_w cA mo th k (zk_n k) (zk_t k) F G2 fb Gc1 Gd1 ++ wr) H → va_D A (zm_w cA mo th k (zk_n k) (zk_t k) F G2 fb Gc1 Gd1 ++ wr) → va_S A s.heap H locs → ∀ ls, lv_has ls 7 [(0, .ref (mo 0)), (1, .ref (mo 2)), (2, .long (lN (e0))), (4, .long (lN (q))), (6, .int (nI (i)))] → W p l e (headSpec wzX1_raise (k2_rm 2 48)).room s m ([.ref (mo 0), .ref (mo 2), .long (lN (e0))] : List Value).toArray below meth c H locs 0 0 (MQ below (va_Qv (fun (u : (Nat → Nat) × (Nat → Nat) × (Nat → Nat)) => (∀ j, j < zk_n k → u.1 j < zk_t k) ∧ ∀ i, i < zk_n k → zq_av k u.1 i = zq_av k fa i ^ e0 % zk_t k) (zw_at (dC, dI) zz_cl ((cA, .int) :: tr) A (fun (u : (Nat → Nat) × (Nat → Nat) × (Nat → Nat)) => zm_w cA mo th k (zk_n k) (zk_t k) F u.1 fb u.2.1 u.2.2 ++ wr)) A) ([.ref (mo 0), .ref (mo 2), .long (lN (e0))] : List Value).toArray s 0 0 A) (F0 m 104 ls []) := by
        intro hq0 Gc1 Gd1 hc1 hd1 hp1
        have loop : ∀ (d i : Nat), i + d = zk_n k → ∀ (G2 : Nat → Nat), (∀ j, j < i → G2 j = Gc1 j) → ∀ (H : Heap) (locs : List Loc), va_P (dC, dI) zz_cl (zm_w cA mo th k (zk_n k) (zk_t k) F G2 fb Gc1 Gd1 ++ wr) H → va_D A (zm_w cA mo th k (zk_n k) (zk_t k) F G2 fb Gc1 Gd1 ++ wr) → va_S A s.heap H locs → ∀ ls, lv_has ls 7 [(0, .ref (mo 0)), (1, .ref (mo 2)), (2, .long (lN (e0))), (4, .long (lN (q))), (6, .int (nI (i)))] → W p l e (headSpec wzX1_raise (k2_rm 2 48)).room s m ([.ref (mo 0), .ref (mo 2), .long (lN (e0))] : List Value).toArray below meth c H locs 0 0 (MQ below (va_Qv (fun (u : (Nat → Nat) × (Nat → Nat) × (Nat → Nat)) => (∀ j, j < zk_n k → u.1 j < zk_t k) ∧ ∀ i, i < zk_n k → zq_av k u.1 i = zq_av k fa i ^ e0 % zk_t k) (zw_at (dC, dI) zz_cl ((cA, .int) :: tr) A (fun (u : (Nat → Nat) × (Nat → Nat) × (Nat → Nat)) => zm_w cA mo th k (zk_n k) (zk_t k) F u.1 fb u.2.1 u.2.2 ++ wr)) A) ([.ref (mo 0), .ref (mo 2), .long (lN (e0))] : List Value).toArray s 0 0 A) (F0 m 104 ls []) := by
          intro d
          induction d with
          | zero =>
            intro i hi G2 hinv H locs hP hD hS ls hl
            have hi : i = zk_n k := by omega
            rw [hi] at hinv
            refine lv_iload hx hb dX1_raise_104 (lv_at hl 4 rfl) ?_
            refine lv_aload_n hx hb dX1_raise_106 rfl (lv_at hl 0 rfl) ?_
            refine zx_get1 (v := .int (nI (zk_n k))) hx hb hts hown hK hP 0 rfl 2 (by decide) zf_X1_7 rfl dX1_raise_107 ?_
            refine zr_ige (tgt := 130) hx hb dX1_raise_110 (by decide) (by omega) (by omega) (fun _ => ?_) (fun hno9 => absurd hno9 (by omega))
            refine lv_lload hx hb dX1_raise_130 (lv_at hl 3 rfl) ?_
            refine lv_iconst (v := nI 1) hx hb dX1_raise_132 (by decide) ?_
            refine zr_lshr1 hx hb dX1_raise_133 (by omega) ?_
            refine lv_lstore (lv' := [(4, .long (lN (q / 2))), (0, .ref (mo 0)), (1, .ref (mo 2)), (2, .long (lN (e0))), (6, .int (nI (i)))]) hx hb dX1_raise_134 hl (by decide) rfl (fun ls hl => ?_)
            refine lv_goto (tgt := 38) hx hb dX1_raise_136 (by decide) ?_
            have hG2 : ∀ j, j < zk_n k → G2 j = zq_tm k Gf Gf j := fun j hj => (hinv j hj).trans (hc1 j hj)
            refine ih (q / 2) (by omega) (by omega) G2 Gc1 Gd1 (fun j hj => by rw [hG2 j hj]; exact zq_tm_lt hk _ _ _) hd1 (fun i9 hi9 => ?_) H locs hP hD hS ls (lv_sub hl [1, 2, 3, 0] rfl)
            rw [zq_av_congr hG2, zq_av_tm hk _ _ hi9]; exact hp1 i9 hi9
          | succ d ih9 =>
            intro i hi G2 hinv H locs hP hD hS ls hl
            refine lv_iload hx hb dX1_raise_104 (lv_at hl 4 rfl) ?_
            refine lv_aload_n hx hb dX1_raise_106 rfl (lv_at hl 0 rfl) ?_
            refine zx_get1 (v := .int (nI (zk_n k))) hx hb hts hown hK hP 0 rfl 2 (by decide) zf_X1_7 rfl dX1_raise_107 ?_
            refine zr_ige (tgt := 130) hx hb dX1_raise_110 (by decide) (by omega) (by omega) (fun hno9 => absurd hno9 (by omega)) (fun _ => ?_)
            refine lv_aload_n hx hb dX1_raise_113 rfl (lv_at hl 1 rfl) ?_
            refine lv_iload hx hb dX1_raise_114 (lv_at hl 4 rfl) ?_
            refine lv_aload_n hx hb dX1_raise_116 rfl (lv_at hl 0 rfl) ?_
            refine zx_get1 (v := .ref (mo 4)) hx hb hts hown hK hP 0 rfl 7 (by decide) zf_X1_26 rfl dX1_raise_117 ?_
            refine lv_iload hx hb dX1_raise_120 (lv_at hl 4 rfl) ?_
            refine zr_iald (y := Gc1 i) hx hb hK hP 4 0 rfl rfl (by omega) (by decide) rfl dX1_raise_122 ?_
            refine zr_iast (ws' := (zm_w cA mo th k (zk_n k) (zk_t k) F (zq_up G2 i (Gc1 i)) fb Gc1 Gd1 ++ wr)) hx hb hK hP hD hS 2 0 rfl rfl (by omega) (by decide) dX1_raise_123 rfl (fun H locs hP hD hS => ?_)
            refine zr_iinc (k := 4) (lv' := [(6, .int (nI (i + 1))), (0, .ref (mo 0)), (1, .ref (mo 2)), (2, .long (lN (e0))), (4, .long (lN (q)))]) hx hb dX1_raise_124 hl rfl (by decide) rfl (fun ls hl => ?_)
            refine lv_goto (tgt := 104) hx hb dX1_raise_127 (by decide) ?_
            refine ih9 (i + 1) (by omega) _ (fun j hj => ?_) H locs hP hD hS ls (lv_sub hl [1, 2, 3, 4, 0] rfl)
            by_cases e9 : j = i
            · rw [e9, zq_up_s]
            · rw [zq_up_n _ _ e9]; exact hinv j (by omega)
        exact loop
      have sq1 : 0 < q → ∀ (Gc1 Gd1 : Nat → Nat), (∀ j, j < zk_n k → Gd1 j < zk_t k) → (∀ i, i < zk_n k → zq_av k Gd1 i * (zq_av k Gf i * zq_av k Gf i % zk_t k) ^ (q / 2) % zk_t k = zq_av k fa i ^ e0 % zk_t k) → ∀ (H : Heap) (locs : List Loc), va_P (dC, dI) zz_cl (zm_w cA mo th k (zk_n k) (zk_t k) F Gf fb Gc1 Gd1 ++ wr) H → va_D A (zm_w cA mo th k (zk_n k) (zk_t k) F Gf fb Gc1 Gd1 ++ wr) → va_S A s.heap H locs → ∀ ls, lv_has ls 7 [(0, .ref (mo 0)), (1, .ref (mo 2)), (2, .long (lN (e0))), (4, .long (lN (q)))] → W p l e (headSpec wzX1_raise (k2_rm 2 48)).room s m ([.ref (mo 0), .ref (mo 2), .long (lN (e0))] : List Value).toArray below meth c H locs 0 0 (MQ below (va_Qv (fun (u : (Nat → Nat) × (Nat → Nat) × (Nat → Nat)) => (∀ j, j < zk_n k → u.1 j < zk_t k) ∧ ∀ i, i < zk_n k → zq_av k u.1 i = zq_av k fa i ^ e0 % zk_t k) (zw_at (dC, dI) zz_cl ((cA, .int) :: tr) A (fun (u : (Nat → Nat) × (Nat → Nat) × (Nat → Nat)) => zm_w cA mo th k (zk_n k) (zk_t k) F u.1 fb u.2.1 u.2.2 ++ wr)) A) ([.ref (mo 0), .ref (mo 2), .long (lN (e0))] : List Value).toArray s 0 0 A) (F0 m 95 ls []) := by
        intro hq0 Gc1 Gd1 hd1 hp1 H locs hP hD hS ls hl
        refine lv_aload_n hx hb dX1_raise_95 rfl (lv_at hl 0 rfl) ?_
        refine lv_aload_n hx hb dX1_raise_96 rfl (lv_at hl 1 rfl) ?_
        refine lv_aload_n hx hb dX1_raise_97 rfl (lv_at hl 1 rfl) ?_
        refine zw_callv (w' := fun u : Nat → Nat => zm_w cA mo th k (zk_n k) (zk_t k) F Gf fb u Gd1 ++ wr) hD hS hA (zx_runV (As := [.ref (mo 2), .ref (mo 2)]) (rest := []) hx hb hml hts hown (cm_times22 l dC dI cA tr wr mo th k F Gf fb Gc1 Gd1 hk H.size hf hf) zv_X1_73 rfl rfl ⟨Nat.le_of_ble_eq_true rfl, Nat.le_of_ble_eq_true rfl⟩ (zw_preV (q := (RX1, TM1, 9)) (ci := 1) (q0 := 0) hP hK hD rfl rfl) rfl hl.1 rfl (Nat.le_of_ble_eq_true rfl) dX1_raise_98 ⟨Nat.zero_le _, Nat.zero_le _⟩) (fun uc H locs huc hP hD hS => ?_)
        refine lv_iconst (v := nI 0) hx hb dX1_raise_101 (by decide) ?_
        refine lv_istore (lv' := [(6, .int (nI (0))), (0, .ref (mo 0)), (1, .ref (mo 2)), (2, .long (lN (e0))), (4, .long (lN (q)))]) hx hb dX1_raise_102 hl (by decide) rfl (fun ls hl => ?_)
        exact sq2 hq0 uc Gd1 huc hd1 hp1 (zk_n k) 0 (by omega) Gf (fun j hj => absurd hj (Nat.not_lt_zero _)) H locs hP hD hS ls (lv_sub hl [1, 2, 3, 4, 0] rfl)
      refine lv_lload hx hb dX1_raise_38 (lv_at hl 3 rfl) ?_
      refine lv_lconst (v := lN 0) hx hb dX1_raise_40 (by decide) ?_
      refine zr_lle (tgt := 139) hx hb dX1_raise_41 dX1_raise_42 (by decide) (by omega) (by omega) (fun hz => ?_) (fun hz => ?_)
      · have hq0 : q = 0 := by omega
        subst hq0
        refine lv_iconst (v := nI 0) hx hb dX1_raise_139 (by decide) ?_
        refine lv_istore (lv' := [(4, .int (nI (0))), (0, .ref (mo 0)), (1, .ref (mo 2)), (2, .long (lN (e0)))]) hx hb dX1_raise_140 hl (by decide) rfl (fun ls hl => ?_)
        exact fin Gc Gd hd (fun i hi9 => by have h9 := hpw i hi9; rw [Nat.pow_zero, Nat.mul_one, Nat.mod_eq_of_lt (zq_av_lt hk _ _)] at h9; exact h9) (zk_n k) 0 (by omega) Gf (fun j hj => absurd hj (Nat.not_lt_zero _)) H locs hP hD hS ls (lv_sub hl [1, 2, 3, 0] rfl)
      · refine lv_lload hx hb dX1_raise_45 (lv_at hl 3 rfl) ?_
        refine lv_lconst (v := lN 1) hx hb dX1_raise_47 (by decide) ?_
        refine zr_land1 hx hb dX1_raise_48 (by omega) ?_
        refine lv_lconst (v := lN 1) hx hb dX1_raise_49 (by decide) ?_
        refine zr_lne (tgt := 95) hx hb dX1_raise_50 dX1_raise_51 (by decide) (by omega) (by omega) (fun hodd => ?_) (fun hodd => ?_)
        · exact sq1 hz Gc Gd hd (fun i hi9 => by rw [zq_sq0, show 2 * (q / 2) = q by omega]; exact hpw i hi9) H locs hP hD hS ls (lv_sub hl [0, 1, 2, 3] rfl)
        · refine lv_aload_n hx hb dX1_raise_54 rfl (lv_at hl 0 rfl) ?_
          refine lv_aload_n hx hb dX1_raise_55 rfl (lv_at hl 0 rfl) ?_
          refine zx_get1 (v := .ref (mo 5)) hx hb hts hown hK hP 0 rfl 8 (by decide) zf_X1_29 rfl dX1_raise_56 ?_
          refine lv_aload_n hx hb dX1_raise_59 rfl (lv_at hl 1 rfl) ?_
          refine zw_callv (w' := fun u : Nat → Nat => zm_w cA mo th k (zk_n k) (zk_t k) F Gf fb u Gd ++ wr) hD hS hA (zx_runV (As := [.ref (mo 5), .ref (mo 2)]) (rest := []) hx hb hml hts hown (cm_times52 l dC dI cA tr wr mo th k F Gf fb Gc Gd hk H.size hd hf) zv_X1_73 rfl rfl ⟨Nat.le_of_ble_eq_true rfl, Nat.le_of_ble_eq_true rfl⟩ (zw_preV (q := (RX1, TM1, 9)) (ci := 1) (q0 := 0) hP hK hD rfl rfl) rfl hl.1 rfl (Nat.le_of_ble_eq_true rfl) dX1_raise_60 ⟨Nat.zero_le _, Nat.zero_le _⟩) (fun uc H locs huc hP hD hS => ?_)
          refine lv_iconst (v := nI 0) hx hb dX1_raise_63 (by decide) ?_
          refine lv_istore (lv' := [(6, .int (nI (0))), (0, .ref (mo 0)), (1, .ref (mo 2)), (2, .long (lN (e0))), (4, .long (lN (q)))]) hx hb dX1_raise_64 hl (by decide) rfl (fun ls hl => ?_)
          have loop : ∀ (d i : Nat), i + d = zk_n k → ∀ (G2 : Nat → Nat), (∀ j, j < i → G2 j = uc j) → ∀ (H : Heap) (locs : List Loc), va_P (dC, dI) zz_cl (zm_w cA mo th k (zk_n k) (zk_t k) F Gf fb uc G2 ++ wr) H → va_D A (zm_w cA mo th k (zk_n k) (zk_t k) F Gf fb uc G2 ++ wr) → va_S A s.heap H locs → ∀ ls, lv_has ls 7 [(0, .ref (mo 0)), (1, .ref (mo 2)), (2, .long (lN (e0))), (4, .long (lN (q))), (6, .int (nI (i)))] → W p l e (headSpec wzX1_raise (k2_rm 2 48)).room s m ([.ref (mo 0), .ref (mo 2), .long (lN (e0))] : List Value).toArray below meth c H locs 0 0 (MQ below (va_Qv (fun (u : (Nat → Nat) × (Nat → Nat) × (Nat → Nat)) => (∀ j, j < zk_n k → u.1 j < zk_t k) ∧ ∀ i, i < zk_n k → zq_av k u.1 i = zq_av k fa i ^ e0 % zk_t k) (zw_at (dC, dI) zz_cl ((cA, .int) :: tr) A (fun (u : (Nat → Nat) × (Nat → Nat) × (Nat → Nat)) => zm_w cA mo th k (zk_n k) (zk_t k) F u.1 fb u.2.1 u.2.2 ++ wr)) A) ([.ref (mo 0), .ref (mo 2), .long (lN (e0))] : List Value).toArray s 0 0 A) (F0 m 66 ls []) := by
            intro d
            induction d with
            | zero =>
              intro i hi G2 hinv H locs hP hD hS ls hl
              have hi : i = zk_n k := by omega
              rw [hi] at hinv
              refine lv_iload hx hb dX1_raise_66 (lv_at hl 4 rfl) ?_
              refine lv_aload_n hx hb dX1_raise_68 rfl (lv_at hl 0 rfl) ?_
              refine zx_get1 (v := .int (nI (zk_n k))) hx hb hts hown hK hP 0 rfl 2 (by decide) zf_X1_7 rfl dX1_raise_69 ?_
              refine zr_ige (tgt := 95) hx hb dX1_raise_72 (by decide) (by omega) (by omega) (fun _ => ?_) (fun hno9 => absurd hno9 (by omega))
              have hG2 : ∀ j, j < zk_n k → G2 j = zq_tm k Gd Gf j := fun j hj => (hinv j hj).trans (huc j hj)
              refine sq1 hz uc G2 (fun j hj => by rw [hG2 j hj]; exact zq_tm_lt hk _ _ _) (fun i9 hi9 => ?_) H locs hP hD hS ls (lv_sub hl [0, 1, 2, 3] rfl)
              rw [zq_av_congr hG2, zq_av_tm hk _ _ hi9, zq_sq1, show 2 * (q / 2) + 1 = q by omega]; exact hpw i9 hi9
            | succ d ih9 =>
              intro i hi G2 hinv H locs hP hD hS ls hl
              refine lv_iload hx hb dX1_raise_66 (lv_at hl 4 rfl) ?_
              refine lv_aload_n hx hb dX1_raise_68 rfl (lv_at hl 0 rfl) ?_
              refine zx_get1 (v := .int (nI (zk_n k))) hx hb hts hown hK hP 0 rfl 2 (by decide) zf_X1_7 rfl dX1_raise_69 ?_
              refine zr_ige (tgt := 95) hx hb dX1_raise_72 (by decide) (by omega) (by omega) (fun hno9 => absurd hno9 (by omega)) (fun _ => ?_)
              refine lv_aload_n hx hb dX1_raise_75 rfl (lv_at hl 0 rfl) ?_
              refine zx_get1 (v := .ref (mo 5)) hx hb hts hown hK hP 0 rfl 8 (by decide) zf_X1_29 rfl dX1_raise_76 ?_
              refine lv_iload hx hb dX1_raise_79 (lv_at hl 4 rfl) ?_
              refine lv_aload_n hx hb dX1_raise_81 rfl (lv_at hl 0 rfl) ?_
              refine zx_get1 (v := .ref (mo 4)) hx hb hts hown hK hP 0 rfl 7 (by decide) zf_X1_26 rfl dX1_raise_82 ?_
              refine lv_iload hx hb dX1_raise_85 (lv_at hl 4 rfl) ?_
              refine zr_iald (y := uc i) hx hb hK hP 4 0 rfl rfl (by omega) (by decide) rfl dX1_raise_87 ?_
              refine zr_iast (ws' := (zm_w cA mo th k (zk_n k) (zk_t k) F Gf fb uc (zq_up G2 i (uc i)) ++ wr)) hx hb hK hP hD hS 5 0 rfl rfl (by omega) (by decide) dX1_raise_88 rfl (fun H locs hP hD hS => ?_)
              refine zr_iinc (k := 4) (lv' := [(6, .int (nI (i + 1))), (0, .ref (mo 0)), (1, .ref (mo 2)), (2, .long (lN (e0))), (4, .long (lN (q)))]) hx hb dX1_raise_89 hl rfl (by decide) rfl (fun ls hl => ?_)
              refine lv_goto (tgt := 66) hx hb dX1_raise_92 (by decide) ?_
              refine ih9 (i + 1) (by omega) _ (fun j hj => ?_) H locs hP hD hS ls (lv_sub hl [1, 2, 3, 4, 0] rfl)
              by_cases e9 : j = i
              · rw [e9, zq_up_s]
              · rw [zq_up_n _ _ e9]; exact hinv j (by omega)
          exact loop (zk_n k) 0 (by omega) Gd (fun j hj => absurd hj (Nat.not_lt_zero _)) H locs hP hD hS ls (lv_sub hl [1, 2, 3, 4, 0] rfl)
  refine lv_iconst (v := nI 0) hx hb dX1_raise_0 (by decide) ?_
  refine lv_istore (lv' := [(4, .int (nI (0))), (0, .ref (mo 0)), (1, .ref (mo 2)), (2, .long (lN (e0)))]) hx hb dX1_raise_1 hl (by decide) rfl (fun ls hl => ?_)
  have first : ∀ (d i : Nat), i + d = zk_n k → ∀ (G1 : Nat → Nat), (∀ j, j < i → G1 j = (if j = 0 then 1 else 0)) → ∀ (H : Heap) (locs : List Loc), va_P (dC, dI) zz_cl (zm_w cA mo th k (zk_n k) (zk_t k) F fa fb fc G1 ++ wr) H → va_D A (zm_w cA mo th k (zk_n k) (zk_t k) F fa fb fc G1 ++ wr) → va_S A s.heap H locs → ∀ ls, lv_has ls 7 [(0, .ref (mo 0)), (1, .ref (mo 2)), (2, .long (lN (e0))), (4, .int (nI (i)))] → W p l e (headSpec wzX1_raise (k2_rm 2 48)).room s m ([.ref (mo 0), .ref (mo 2), .long (lN (e0))] : List Value).toArray below meth c H locs 0 0 (MQ below (va_Qv (fun (u : (Nat → Nat) × (Nat → Nat) × (Nat → Nat)) => (∀ j, j < zk_n k → u.1 j < zk_t k) ∧ ∀ i, i < zk_n k → zq_av k u.1 i = zq_av k fa i ^ e0 % zk_t k) (zw_at (dC, dI) zz_cl ((cA, .int) :: tr) A (fun (u : (Nat → Nat) × (Nat → Nat) × (Nat → Nat)) => zm_w cA mo th k (zk_n k) (zk_t k) F u.1 fb u.2.1 u.2.2 ++ wr)) A) ([.ref (mo 0), .ref (mo 2), .long (lN (e0))] : List Value).toArray s 0 0 A) (F0 m 3 ls []) := by
    intro d
    induction d with
    | zero =>
      intro i hi G1 hinv H locs hP hD hS ls hl
      have hi : i = zk_n k := by omega
      rw [hi] at hinv
      refine lv_iload hx hb dX1_raise_3 (lv_at hl 3 rfl) ?_
      refine lv_aload_n hx hb dX1_raise_5 rfl (lv_at hl 0 rfl) ?_
      refine zx_get1 (v := .int (nI (zk_n k))) hx hb hts hown hK hP 0 rfl 2 (by decide) zf_X1_7 rfl dX1_raise_6 ?_
      refine zr_ige (tgt := 35) hx hb dX1_raise_9 (by decide) (by omega) (by omega) (fun _ => ?_) (fun hno9 => absurd hno9 (by omega))
      refine lv_lload_n hx hb dX1_raise_35 rfl (lv_at hl 2 rfl) ?_
      refine lv_lstore (lv' := [(4, .long (lN (e0))), (0, .ref (mo 0)), (1, .ref (mo 2)), (2, .long (lN (e0)))]) hx hb dX1_raise_36 hl (by decide) rfl (fun ls hl => ?_)
      refine main e0 he0 fa fc G1 hG (fun j hj => ?_) (fun i9 hi9 => ?_) H locs hP hD hS ls (lv_sub hl [1, 2, 3, 0] rfl)
      · rw [hinv j hj]; split <;> omega
      · rw [zq_av_congr hinv, zq_av_0 hk, Nat.one_mul]
    | succ d ih =>
      intro i hi G1 hinv H locs hP hD hS ls hl
      refine lv_iload hx hb dX1_raise_3 (lv_at hl 3 rfl) ?_
      refine lv_aload_n hx hb dX1_raise_5 rfl (lv_at hl 0 rfl) ?_
      refine zx_get1 (v := .int (nI (zk_n k))) hx hb hts hown hK hP 0 rfl 2 (by decide) zf_X1_7 rfl dX1_raise_6 ?_
      refine zr_ige (tgt := 35) hx hb dX1_raise_9 (by decide) (by omega) (by omega) (fun hno9 => absurd hno9 (by omega)) (fun _ => ?_)
      refine lv_aload_n hx hb dX1_raise_12 rfl (lv_at hl 0 rfl) ?_
      refine zx_get1 (v := .ref (mo 5)) hx hb hts hown hK hP 0 rfl 8 (by decide) zf_X1_29 rfl dX1_raise_13 ?_
      refine lv_iload hx hb dX1_raise_16 (lv_at hl 3 rfl) ?_
      refine lv_iload hx hb dX1_raise_18 (lv_at hl 3 rfl) ?_
      refine zr_ifne (tgt := 27) hx hb dX1_raise_20 (by decide) (by omega) (fun hz => ?_) (fun hz => ?_)
      · refine lv_iconst (v := nI 0) hx hb dX1_raise_27 (by decide) ?_
        refine zr_iast (ws' := (zm_w cA mo th k (zk_n k) (zk_t k) F fa fb fc (zq_up G1 i 0) ++ wr)) hx hb hK hP hD hS 5 0 rfl rfl (by omega) (by decide) dX1_raise_28 rfl (fun H locs hP hD hS => ?_)
        refine zr_iinc (k := 3) (lv' := [(4, .int (nI (i + 1))), (0, .ref (mo 0)), (1, .ref (mo 2)), (2, .long (lN (e0)))]) hx hb dX1_raise_29 hl rfl (by decide) rfl (fun ls hl => ?_)
        refine lv_goto (tgt := 3) hx hb dX1_raise_32 (by decide) ?_
        refine ih (i + 1) (by omega) _ (fun j hj => ?_) H locs hP hD hS ls (lv_sub hl [1, 2, 3, 0] rfl)
        by_cases e9 : j = i
        · rw [e9, zq_up_s, if_neg hz]
        · rw [zq_up_n _ _ e9]; exact hinv j (by omega)
      · refine lv_iconst (v := nI 1) hx hb dX1_raise_23 (by decide) ?_
        refine lv_goto (tgt := 28) hx hb dX1_raise_24 (by decide) ?_
        refine zr_iast (ws' := (zm_w cA mo th k (zk_n k) (zk_t k) F fa fb fc (zq_up G1 i 1) ++ wr)) hx hb hK hP hD hS 5 0 rfl rfl (by omega) (by decide) dX1_raise_28 rfl (fun H locs hP hD hS => ?_)
        refine zr_iinc (k := 3) (lv' := [(4, .int (nI (i + 1))), (0, .ref (mo 0)), (1, .ref (mo 2)), (2, .long (lN (e0)))]) hx hb dX1_raise_29 hl rfl (by decide) rfl (fun ls hl => ?_)
        refine lv_goto (tgt := 3) hx hb dX1_raise_32 (by decide) ?_
        refine ih (i + 1) (by omega) _ (fun j hj => ?_) H locs hP hD hS ls (lv_sub hl [1, 2, 3, 0] rfl)
        by_cases e9 : j = i
        · rw [e9, zq_up_s, if_pos hz]
        · rw [zq_up_n _ _ e9]; exact hinv j (by omega)
  exact first (zk_n k) 0 (by omega) fd (fun j hj => absurd hj (Nat.not_lt_zero _)) s.heap [] hP hD hS ls (lv_sub hl [1, 2, 3, 0] rfl)
set_option maxHeartbeats 4000000 in
set_option maxRecDepth 100000 in
/-- raise(f, e) -/
theorem cm_raise3 (l : Launch) (dC : Nat → ClassId) (dI : Nat → Nat → Nat) (cA : ClassId) (tr : List (ClassId × FieldType)) (wr : va_W) (mo : Nat → Nat) (th k : Nat) (F fa fb fc fd : Nat → Nat) (hk : k < 4) (sz : Nat) (e0 : Nat) (he0 : e0 < 4294967296) (hG : ∀ j, j < zk_n k → fb j < zk_t k) : Met l yX1_raise wzX1_raise (k2_rm 2 48) (zw_pre (dC, dI) zz_cl ((cA, .int) :: tr) (zm_w cA mo th k (zk_n k) (zk_t k) F fa fb fc fd ++ wr) sz [.ref (mo 0), .ref (mo 3), .long (lN (e0))]) (va_Qv (fun (u : (Nat → Nat) × (Nat → Nat) × (Nat → Nat)) => (∀ j, j < zk_n k → u.1 j < zk_t k) ∧ ∀ i, i < zk_n k → zq_av k u.1 i = zq_av k fb i ^ e0 % zk_t k) (zw_at (dC, dI) zz_cl ((cA, .int) :: tr) (va_A (zm_w cA mo th k (zk_n k) (zk_t k) F fa fb fc fd ++ wr) sz) (fun (u : (Nat → Nat) × (Nat → Nat) × (Nat → Nat)) => zm_w cA mo th k (zk_n k) (zk_t k) F fa u.1 u.2.1 u.2.2 ++ wr)) (va_A (zm_w cA mo th k (zk_n k) (zk_t k) F fa fb fc fd ++ wr) sz)) 0 0 (va_A (zm_w cA mo th k (zk_n k) (zk_t k) F fa fb fc fd ++ wr) sz) := by
  refine Met.ofW (cc := cX1_raise) (maxL := 7) (ret := none) (by decide) rfl ?_
  intro p e s m args below meth c s₁ B hml hv
  obtain ⟨rfl, hsz, hP, hK, hD0⟩ := hv
  have hx := B.exec
  have hb := B.bytes
  have hr := B.returns
  have hts := atoms_spec (ws := wzX1_raise) B.pre
  have hown : s.vm.findClass RX1 = some m.cls := findClass_of_methodNamed B.named
  have hlocks := B.notSynchronized
  subst hsz
  have hD := hD0.self (sz := s.heap.size)
  generalize hAe : va_A (zm_w cA mo th k (zk_n k) (zk_t k) F fa fb fc fd ++ wr) s.heap.size = A at hD ⊢
  have hA : ∀ q : Nat, s.heap.size ≤ q → A q := fun q h => by rw [← hAe]; exact Or.inr h
  have hS : va_S A s.heap s.heap [] := va_S.rf
  have hl := lv_entry ([.ref (mo 0), .ref (mo 3), .long (lN (e0))]) (n := 7) (Nat.le_of_ble_eq_true rfl)
  rw [lg_entry_eq]
  generalize (lg_sl ([.ref (mo 0), .ref (mo 3), .long (lN (e0))]) ++ List.replicate (7 - (lg_sl ([.ref (mo 0), .ref (mo 3), .long (lN (e0))])).length) Slot.unset).toArray = ls at hl ⊢
  have hl : lv_has ls 7 [(0, .ref (mo 0)), (1, .ref (mo 3)), (2, .long (lN (e0)))] := hl
  obtain ⟨hb1, hb2, hb3, hb4, hb5, hb6, hb7, hb8⟩ := zk_b k hk
  have fin : ∀ (Gc Gd : Nat → Nat), (∀ j, j < zk_n k → Gd j < zk_t k) → (∀ i, i < zk_n k → zq_av k Gd i = zq_av k fb i ^ e0 % zk_t k) → ∀ (d i : Nat), i + d = zk_n k → ∀ (Gf : Nat → Nat), (∀ j, j < i → Gf j = Gd j) → ∀ (H : Heap) (locs : List Loc), va_P (dC, dI) zz_cl (zm_w cA mo th k (zk_n k) (zk_t k) F fa Gf Gc Gd ++ wr) H → va_D A (zm_w cA mo th k (zk_n k) (zk_t k) F fa Gf Gc Gd ++ wr) → va_S A s.heap H locs → ∀ ls, lv_has ls 7 [(0, .ref (mo 0)), (1, .ref (mo 3)), (2, .long (lN (e0))), (4, .int (nI (i)))] → W p l e (headSpec wzX1_raise (k2_rm 2 48)).room s m ([.ref (mo 0), .ref (mo 3), .long (lN (e0))] : List Value).toArray below meth c H locs 0 0 (MQ below (va_Qv (fun (u : (Nat → Nat) × (Nat → Nat) × (Nat → Nat)) => (∀ j, j < zk_n k → u.1 j < zk_t k) ∧ ∀ i, i < zk_n k → zq_av k u.1 i = zq_av k fb i ^ e0 % zk_t k) (zw_at (dC, dI) zz_cl ((cA, .int) :: tr) A (fun (u : (Nat → Nat) × (Nat → Nat) × (Nat → Nat)) => zm_w cA mo th k (zk_n k) (zk_t k) F fa u.1 u.2.1 u.2.2 ++ wr)) A) ([.ref (mo 0), .ref (mo 3), .long (lN (e0))] : List Value).toArray s 0 0 A) (F0 m 142 ls []) := by
    intro Gc Gd hd1 hd2
    have loop : ∀ (d i : Nat), i + d = zk_n k → ∀ (Gf : Nat → Nat), (∀ j, j < i → Gf j = Gd j) → ∀ (H : Heap) (locs : List Loc), va_P (dC, dI) zz_cl (zm_w cA mo th k (zk_n k) (zk_t k) F fa Gf Gc Gd ++ wr) H → va_D A (zm_w cA mo th k (zk_n k) (zk_t k) F fa Gf Gc Gd ++ wr) → va_S A s.heap H locs → ∀ ls, lv_has ls 7 [(0, .ref (mo 0)), (1, .ref (mo 3)), (2, .long (lN (e0))), (4, .int (nI (i)))] → W p l e (headSpec wzX1_raise (k2_rm 2 48)).room s m ([.ref (mo 0), .ref (mo 3), .long (lN (e0))] : List Value).toArray below meth c H locs 0 0 (MQ below (va_Qv (fun (u : (Nat → Nat) × (Nat → Nat) × (Nat → Nat)) => (∀ j, j < zk_n k → u.1 j < zk_t k) ∧ ∀ i, i < zk_n k → zq_av k u.1 i = zq_av k fb i ^ e0 % zk_t k) (zw_at (dC, dI) zz_cl ((cA, .int) :: tr) A (fun (u : (Nat → Nat) × (Nat → Nat) × (Nat → Nat)) => zm_w cA mo th k (zk_n k) (zk_t k) F fa u.1 u.2.1 u.2.2 ++ wr)) A) ([.ref (mo 0), .ref (mo 3), .long (lN (e0))] : List Value).toArray s 0 0 A) (F0 m 142 ls []) := by
      intro d
      induction d with
      | zero =>
        intro i hi Gf hinv H locs hP hD hS ls hl
        have hi : i = zk_n k := by omega
        rw [hi] at hinv
        refine lv_iload hx hb dX1_raise_142 (lv_at hl 3 rfl) ?_
        refine lv_aload_n hx hb dX1_raise_144 rfl (lv_at hl 0 rfl) ?_
        refine zx_get1 (v := .int (nI (zk_n k))) hx hb hts hown hK hP 0 rfl 2 (by decide) zf_X1_7 rfl dX1_raise_145 ?_
        refine zr_ige (tgt := 168) hx hb dX1_raise_148 (by decide) (by omega) (by omega) (fun _ => ?_) (fun hno9 => absurd hno9 (by omega))
        exact W.vret hx hb hr (fun t9 h9 hW9 => ⟨⟨(Gf, Gc, Gd), rfl, ⟨fun j hj => by show Gf j < _; rw [hinv j hj]; exact hd1 j hj, fun i hi9 => (zq_av_congr (fun j hj => hinv j hj) i).trans (hd2 i hi9)⟩, by rw [h9]; exact hP, va_K.moved hW9.alike hK, hD⟩, hS.F h9⟩) hS.2.2 dX1_raise_168
      | succ d ih =>
        intro i hi Gf hinv H locs hP hD hS ls hl
        refine lv_iload hx hb dX1_raise_142 (lv_at hl 3 rfl) ?_
        refine lv_aload_n hx hb dX1_raise_144 rfl (lv_at hl 0 rfl) ?_
        refine zx_get1 (v := .int (nI (zk_n k))) hx hb hts hown hK hP 0 rfl 2 (by decide) zf_X1_7 rfl dX1_raise_145 ?_
        refine zr_ige (tgt := 168) hx hb dX1_raise_148 (by decide) (by omega) (by omega) (fun hno9 => absurd hno9 (by omega)) (fun _ => ?_)
        refine lv_aload_n hx hb dX1_raise_151 rfl (lv_at hl 1 rfl) ?_
        refine lv_iload hx hb dX1_raise_152 (lv_at hl 3 rfl) ?_
        refine lv_aload_n hx hb dX1_raise_154 rfl (lv_at hl 0 rfl) ?_
        refine zx_get1 (v := .ref (mo 5)) hx hb hts hown hK hP 0 rfl 8 (by decide) zf_X1_29 rfl dX1_raise_155 ?_
        refine lv_iload hx hb dX1_raise_158 (lv_at hl 3 rfl) ?_
        refine zr_iald (y := Gd i) hx hb hK hP 5 0 rfl rfl (by omega) (by decide) rfl dX1_raise_160 ?_
        refine zr_iast (ws' := (zm_w cA mo th k (zk_n k) (zk_t k) F fa (zq_up Gf i (Gd i)) Gc Gd ++ wr)) hx hb hK hP hD hS 3 0 rfl rfl (by omega) (by decide) dX1_raise_161 rfl (fun H locs hP hD hS => ?_)
        refine zr_iinc (k := 3) (lv' := [(4, .int (nI (i + 1))), (0, .ref (mo 0)), (1, .ref (mo 3)), (2, .long (lN (e0)))]) hx hb dX1_raise_162 hl rfl (by decide) rfl (fun ls hl => ?_)
        refine lv_goto (tgt := 142) hx hb dX1_raise_165 (by decide) ?_
        refine ih (i + 1) (by omega) _ (fun j hj => ?_) H locs hP hD hS ls (lv_sub hl [1, 2, 3, 0] rfl)
        by_cases e9 : j = i
        · rw [e9, zq_up_s]
        · rw [zq_up_n _ _ e9]; exact hinv j (by omega)
    exact loop
  have main : ∀ (q : Nat), q < 4294967296 → ∀ (Gf Gc Gd : Nat → Nat), (∀ j, j < zk_n k → Gf j < zk_t k) → (∀ j, j < zk_n k → Gd j < zk_t k) → (∀ i, i < zk_n k → zq_av k Gd i * zq_av k Gf i ^ q % zk_t k = zq_av k fb i ^ e0 % zk_t k) → ∀ (H : Heap) (locs : List Loc), va_P (dC, dI) zz_cl (zm_w cA mo th k (zk_n k) (zk_t k) F fa Gf Gc Gd ++ wr) H → va_D A (zm_w cA mo th k (zk_n k) (zk_t k) F fa Gf Gc Gd ++ wr) → va_S A s.heap H locs → ∀ ls, lv_has ls 7 [(0, .ref (mo 0)), (1, .ref (mo 3)), (2, .long (lN (e0))), (4, .long (lN (q)))] → W p l e (headSpec wzX1_raise (k2_rm 2 48)).room s m ([.ref (mo 0), .ref (mo 3), .long (lN (e0))] : List Value).toArray below meth c H locs 0 0 (MQ below (va_Qv (fun (u : (Nat → Nat) × (Nat → Nat) × (Nat → Nat)) => (∀ j, j < zk_n k → u.1 j < zk_t k) ∧ ∀ i, i < zk_n k → zq_av k u.1 i = zq_av k fb i ^ e0 % zk_t k) (zw_at (dC, dI) zz_cl ((cA, .int) :: tr) A (fun (u : (Nat → Nat) × (Nat → Nat) × (Nat → Nat)) => zm_w cA mo th k (zk_n k) (zk_t k) F fa u.1 u.2.1 u.2.2 ++ wr)) A) ([.ref (mo 0), .ref (mo 3), .long (lN (e0))] : List Value).toArray s 0 0 A) (F0 m 38 ls []) := by
    intro q
    induction q using Nat.strongRecOn with
    | _ q ih =>
      intro hq Gf Gc Gd hf hd hpw H locs hP hD hS ls hl
      have sq2 : 0 < q → ∀ (Gc1 Gd1 : Nat → Nat), (∀ j, j < zk_n k → Gc1 j = zq_tm k Gf Gf j) → (∀ j, j < zk_n k → Gd1 j < zk_t k) → (∀ i, i < zk_n k → zq_av k Gd1 i * (zq_av k Gf i * zq_av k Gf i % zk_t k) ^ (q / 2) % zk_t k = zq_av k fb i ^ e0 % zk_t k) → ∀ (d i : Nat), i + d = zk_n k → ∀ (G2 : Nat → Nat), (∀ j, j < i → G2 j = Gc1 j) → ∀ (H : Heap) (locs : List Loc), va_P (dC, dI) zz_cl (zm_w cA mo th k (zk_n k) (zk_t k) F fa G2 Gc1 Gd1 ++ wr) H → va_D A (zm_w cA mo th k (zk_n k) (zk_t k) F fa G2 Gc1 Gd1 ++ wr) → va_S A s.heap H locs → ∀ ls, lv_has ls 7 [(0, .ref (mo 0)), (1, .ref (mo 3)), (2, .long (lN (e0))), (4, .long (lN (q))), (6, .int (nI (i)))] → W p l e (headSpec wzX1_raise (k2_rm 2 48)).room s m ([.ref (mo 0), .ref (mo 3), .long (lN (e0))] : List Value).toArray below meth c H locs 0 0 (MQ below (va_Qv (fun (u : (Nat → Nat) × (Nat → Nat) × (Nat → Nat)) => (∀ j, j < zk_n k → u.1 j < zk_t k) ∧ ∀ i, i < zk_n k → zq_av k u.1 i = zq_av k fb i ^ e0 % zk_t k) (zw_at (dC, dI) zz_cl ((cA, .int) :: tr) A (fun (u : (Nat → Nat) × (Nat → Nat) × (Nat → Nat)) => zm_w cA mo th k (zk_n k) (zk_t k) F fa u.1 u.2.1 u.2.2 ++ wr)) A) ([.ref (mo 0), .ref (mo 3), .long (lN (e0))] : List Value).toArray s 0 0 A) (F0 m 104 ls []) := by
        intro hq0 Gc1 Gd1 hc1 hd1 hp1
        have loop : ∀ (d i : Nat), i + d = zk_n k → ∀ (G2 : Nat → Nat), (∀ j, j < i → G2 j = Gc1 j) → ∀ (H : Heap) (locs : List Loc), va_P (dC, dI) zz_cl (zm_w cA mo th k (zk_n k) (zk_t k) F fa G2 Gc1 Gd1 ++ wr) H → va_D A (zm_w cA mo th k (zk_n k) (zk_t k) F fa G2 Gc1 Gd1 ++ wr) → va_S A s.heap H locs → ∀ ls, lv_has ls 7 [(0, .ref (mo 0)), (1, .ref (mo 3)), (2, .long (lN (e0))), (4, .long (lN (q))), (6, .int (nI (i)))] → W p l e (headSpec wzX1_raise (k2_rm 2 48)).room s m ([.ref (mo 0), .ref (mo 3), .long (lN (e0))] : List Value).toArray below meth c H locs 0 0 (MQ below (va_Qv (fun (u : (Nat → Nat) × (Nat → Nat) × (Nat → Nat)) => (∀ j, j < zk_n k → u.1 j < zk_t k) ∧ ∀ i, i < zk_n k → zq_av k u.1 i = zq_av k fb i ^ e0 % zk_t k) (zw_at (dC, dI) zz_cl ((cA, .int) :: tr) A (fun (u : (Nat → Nat) × (Nat → Nat) × (Nat → Nat)) => zm_w cA mo th k (zk_n k) (zk_t k) F fa u.1 u.2.1 u.2.2 ++ wr)) A) ([.ref (mo 0), .ref (mo 3), .long (lN (e0))] : List Value).toArray s 0 0 A) (F0 m 104 ls []) := by
          intro d
          induction d with
          | zero =>
            intro i hi G2 hinv H locs hP hD hS ls hl
            have hi : i = zk_n k := by omega
            rw [hi] at hinv
            refine lv_iload hx hb dX1_raise_104 (lv_at hl 4 rfl) ?_
            refine lv_aload_n hx hb dX1_raise_106 rfl (lv_at hl 0 rfl) ?_
            refine zx_get1 (v := .int (nI (zk_n k))) hx hb hts hown hK hP 0 rfl 2 (by decide) zf_X1_7 rfl dX1_raise_107 ?_
            refine zr_ige (tgt := 130) hx hb dX1_raise_110 (by decide) (by omega) (by omega) (fun _ => ?_) (fun hno9 => absurd hno9 (by omega))
            refine lv_lload hx hb dX1_raise_130 (lv_at hl 3 rfl) ?_
            refine lv_iconst (v := nI 1) hx hb dX1_raise_132 (by decide) ?_
            refine zr_lshr1 hx hb dX1_raise_133 (by omega) ?_
            refine lv_lstore (lv' := [(4, .long (lN (q / 2))), (0, .ref (mo 0)), (1, .ref (mo 3)), (2, .long (lN (e0))), (6, .int (nI (i)))]) hx hb dX1_raise_134 hl (by decide) rfl (fun ls hl => ?_)
            refine lv_goto (tgt := 38) hx hb dX1_raise_136 (by decide) ?_
            have hG2 : ∀ j, j < zk_n k → G2 j = zq_tm k Gf Gf j := fun j hj => (hinv j hj).trans (hc1 j hj)
            refine ih (q / 2) (by omega) (by omega) G2 Gc1 Gd1 (fun j hj => by rw [hG2 j hj]; exact zq_tm_lt hk _ _ _) hd1 (fun i9 hi9 => ?_) H locs hP hD hS ls (lv_sub hl [1, 2, 3, 0] rfl)
            rw [zq_av_congr hG2, zq_av_tm hk _ _ hi9]; exact hp1 i9 hi9
          | succ d ih9 =>
            intro i hi G2 hinv H locs hP hD hS ls hl
            refine lv_iload hx hb dX1_raise_104 (lv_at hl 4 rfl) ?_
            refine lv_aload_n hx hb dX1_raise_106 rfl (lv_at hl 0 rfl) ?_
            refine zx_get1 (v := .int (nI (zk_n k))) hx hb hts hown hK hP 0 rfl 2 (by decide) zf_X1_7 rfl dX1_raise_107 ?_
            refine zr_ige (tgt := 130) hx hb dX1_raise_110 (by decide) (by omega) (by omega) (fun hno9 => absurd hno9 (by omega)) (fun _ => ?_)
            refine lv_aload_n hx hb dX1_raise_113 rfl (lv_at hl 1 rfl) ?_
            refine lv_iload hx hb dX1_raise_114 (lv_at hl 4 rfl) ?_
            refine lv_aload_n hx hb dX1_raise_116 rfl (lv_at hl 0 rfl) ?_
            refine zx_get1 (v := .ref (mo 4)) hx hb hts hown hK hP 0 rfl 7 (by decide) zf_X1_26 rfl dX1_raise_117 ?_
            refine lv_iload hx hb dX1_raise_120 (lv_at hl 4 rfl) ?_
            refine zr_iald (y := Gc1 i) hx hb hK hP 4 0 rfl rfl (by omega) (by decide) rfl dX1_raise_122 ?_
            refine zr_iast (ws' := (zm_w cA mo th k (zk_n k) (zk_t k) F fa (zq_up G2 i (Gc1 i)) Gc1 Gd1 ++ wr)) hx hb hK hP hD hS 3 0 rfl rfl (by omega) (by decide) dX1_raise_123 rfl (fun H locs hP hD hS => ?_)
            refine zr_iinc (k := 4) (lv' := [(6, .int (nI (i + 1))), (0, .ref (mo 0)), (1, .ref (mo 3)), (2, .long (lN (e0))), (4, .long (lN (q)))]) hx hb dX1_raise_124 hl rfl (by decide) rfl (fun ls hl => ?_)
            refine lv_goto (tgt := 104) hx hb dX1_raise_127 (by decide) ?_
            refine ih9 (i + 1) (by omega) _ (fun j hj => ?_) H locs hP hD hS ls (lv_sub hl [1, 2, 3, 4, 0] rfl)
            by_cases e9 : j = i
            · rw [e9, zq_up_s]
            · rw [zq_up_n _ _ e9]; exact hinv j (by omega)
        exact loop
      have sq1 : 0 < q → ∀ (Gc1 Gd1 : Nat → Nat), (∀ j, j < zk_n k → Gd1 j < zk_t k) → (∀ i, i < zk_n k → zq_av k Gd1 i * (zq_av k Gf i * zq_av k Gf i % zk_t k) ^ (q / 2) % zk_t k = zq_av k fb i ^ e0 % zk_t k) → ∀ (H : Heap) (locs : List Loc), va_P (dC, dI) zz_cl (zm_w cA mo th k (zk_n k) (zk_t k) F fa Gf Gc1 Gd1 ++ wr) H → va_D A (zm_w cA mo th k (zk_n k) (zk_t k) F fa Gf Gc1 Gd1 ++ wr) → va_S A s.heap H locs → ∀ ls, lv_has ls 7 [(0, .ref (mo 0)), (1, .ref (mo 3)), (2, .long (lN (e0))), (4, .long (lN (q)))] → W p l e (headSpec wzX1_raise (k2_rm 2 48)).room s m ([.ref (mo 0), .ref (mo 3), .long (lN (e0))] : List Value).toArray below meth c H locs 0 0 (MQ below (va_Qv (fun (u : (Nat → Nat) × (Nat → Nat) × (Nat → Nat)) => (∀ j, j < zk_n k → u.1 j < zk_t k) ∧ ∀ i, i < zk_n k → zq_av k u.1 i = zq_av k fb i ^ e0 % zk_t k) (zw_at (dC, dI) zz_cl ((cA, .int) :: tr) A (fun (u : (Nat → Nat) × (Nat → Nat) × (Nat → Nat)) => zm_w cA mo th k (zk_n k) (zk_t k) F fa u.1 u.2.1 u.2.2 ++ wr)) A) ([.ref (mo 0), .ref (mo 3), .long (lN (e0))] : List Value).toArray s 0 0 A) (F0 m 95 ls []) := by
        intro hq0 Gc1 Gd1 hd1 hp1 H locs hP hD hS ls hl
        refine lv_aload_n hx hb dX1_raise_95 rfl (lv_at hl 0 rfl) ?_
        refine lv_aload_n hx hb dX1_raise_96 rfl (lv_at hl 1 rfl) ?_
        refine lv_aload_n hx hb dX1_raise_97 rfl (lv_at hl 1 rfl) ?_
        refine zw_callv (w' := fun u : Nat → Nat => zm_w cA mo th k (zk_n k) (zk_t k) F fa Gf u Gd1 ++ wr) hD hS hA (zx_runV (As := [.ref (mo 3), .ref (mo 3)]) (rest := []) hx hb hml hts hown (cm_times33 l dC dI cA tr wr mo th k F fa Gf Gc1 Gd1 hk H.size hf hf) zv_X1_73 rfl rfl ⟨Nat.le_of_ble_eq_true rfl, Nat.le_of_ble_eq_true rfl⟩ (zw_preV (q := (RX1, TM1, 9)) (ci := 1) (q0 := 0) hP hK hD rfl rfl) rfl hl.1 rfl (Nat.le_of_ble_eq_true rfl) dX1_raise_98 ⟨Nat.zero_le _, Nat.zero_le _⟩) (fun uc H locs huc hP hD hS => ?_)
        refine lv_iconst (v := nI 0) hx hb dX1_raise_101 (by decide) ?_
        refine lv_istore (lv' := [(6, .int (nI (0))), (0, .ref (mo 0)), (1, .ref (mo 3)), (2, .long (lN (e0))), (4, .long (lN (q)))]) hx hb dX1_raise_102 hl (by decide) rfl (fun ls hl => ?_)
        exact sq2 hq0 uc Gd1 huc hd1 hp1 (zk_n k) 0 (by omega) Gf (fun j hj => absurd hj (Nat.not_lt_zero _)) H locs hP hD hS ls (lv_sub hl [1, 2, 3, 4, 0] rfl)
      refine lv_lload hx hb dX1_raise_38 (lv_at hl 3 rfl) ?_
      refine lv_lconst (v := lN 0) hx hb dX1_raise_40 (by decide) ?_
      refine zr_lle (tgt := 139) hx hb dX1_raise_41 dX1_raise_42 (by decide) (by omega) (by omega) (fun hz => ?_) (fun hz => ?_)
      · have hq0 : q = 0 := by omega
        subst hq0
        refine lv_iconst (v := nI 0) hx hb dX1_raise_139 (by decide) ?_
        refine lv_istore (lv' := [(4, .int (nI (0))), (0, .ref (mo 0)), (1, .ref (mo 3)), (2, .long (lN (e0)))]) hx hb dX1_raise_140 hl (by decide) rfl (fun ls hl => ?_)
        exact fin Gc Gd hd (fun i hi9 => by have h9 := hpw i hi9; rw [Nat.pow_zero, Nat.mul_one, Nat.mod_eq_of_lt (zq_av_lt hk _ _)] at h9; exact h9) (zk_n k) 0 (by omega) Gf (fun j hj => absurd hj (Nat.not_lt_zero _)) H locs hP hD hS ls (lv_sub hl [1, 2, 3, 0] rfl)
      · refine lv_lload hx hb dX1_raise_45 (lv_at hl 3 rfl) ?_
        refine lv_lconst (v := lN 1) hx hb dX1_raise_47 (by decide) ?_
        refine zr_land1 hx hb dX1_raise_48 (by omega) ?_
        refine lv_lconst (v := lN 1) hx hb dX1_raise_49 (by decide) ?_
        refine zr_lne (tgt := 95) hx hb dX1_raise_50 dX1_raise_51 (by decide) (by omega) (by omega) (fun hodd => ?_) (fun hodd => ?_)
        · exact sq1 hz Gc Gd hd (fun i hi9 => by rw [zq_sq0, show 2 * (q / 2) = q by omega]; exact hpw i hi9) H locs hP hD hS ls (lv_sub hl [0, 1, 2, 3] rfl)
        · refine lv_aload_n hx hb dX1_raise_54 rfl (lv_at hl 0 rfl) ?_
          refine lv_aload_n hx hb dX1_raise_55 rfl (lv_at hl 0 rfl) ?_
          refine zx_get1 (v := .ref (mo 5)) hx hb hts hown hK hP 0 rfl 8 (by decide) zf_X1_29 rfl dX1_raise_56 ?_
          refine lv_aload_n hx hb dX1_raise_59 rfl (lv_at hl 1 rfl) ?_
          refine zw_callv (w' := fun u : Nat → Nat => zm_w cA mo th k (zk_n k) (zk_t k) F fa Gf u Gd ++ wr) hD hS hA (zx_runV (As := [.ref (mo 5), .ref (mo 3)]) (rest := []) hx hb hml hts hown (cm_times53 l dC dI cA tr wr mo th k F fa Gf Gc Gd hk H.size hd hf) zv_X1_73 rfl rfl ⟨Nat.le_of_ble_eq_true rfl, Nat.le_of_ble_eq_true rfl⟩ (zw_preV (q := (RX1, TM1, 9)) (ci := 1) (q0 := 0) hP hK hD rfl rfl) rfl hl.1 rfl (Nat.le_of_ble_eq_true rfl) dX1_raise_60 ⟨Nat.zero_le _, Nat.zero_le _⟩) (fun uc H locs huc hP hD hS => ?_)
          refine lv_iconst (v := nI 0) hx hb dX1_raise_63 (by decide) ?_
          refine lv_istore (lv' := [(6, .int (nI (0))), (0, .ref (mo 0)), (1, .ref (mo 3)), (2, .long (lN (e0))), (4, .long (lN (q)))]) hx hb dX1_raise_64 hl (by decide) rfl (fun ls hl => ?_)
          have loop : ∀ (d i : Nat), i + d = zk_n k → ∀ (G2 : Nat → Nat), (∀ j, j < i → G2 j = uc j) → ∀ (H : Heap) (locs : List Loc), va_P (dC, dI) zz_cl (zm_w cA mo th k (zk_n k) (zk_t k) F fa Gf uc G2 ++ wr) H → va_D A (zm_w cA mo th k (zk_n k) (zk_t k) F fa Gf uc G2 ++ wr) → va_S A s.heap H locs → ∀ ls, lv_has ls 7 [(0, .ref (mo 0)), (1, .ref (mo 3)), (2, .long (lN (e0))), (4, .long (lN (q))), (6, .int (nI (i)))] → W p l e (headSpec wzX1_raise (k2_rm 2 48)).room s m ([.ref (mo 0), .ref (mo 3), .long (lN (e0))] : List Value).toArray below meth c H locs 0 0 (MQ below (va_Qv (fun (u : (Nat → Nat) × (Nat → Nat) × (Nat → Nat)) => (∀ j, j < zk_n k → u.1 j < zk_t k) ∧ ∀ i, i < zk_n k → zq_av k u.1 i = zq_av k fb i ^ e0 % zk_t k) (zw_at (dC, dI) zz_cl ((cA, .int) :: tr) A (fun (u : (Nat → Nat) × (Nat → Nat) × (Nat → Nat)) => zm_w cA mo th k (zk_n k) (zk_t k) F fa u.1 u.2.1 u.2.2 ++ wr)) A) ([.ref (mo 0), .ref (mo 3), .long (lN (e0))] : List Value).toArray s 0 0 A) (F0 m 66 ls []) := by
            intro d
            induction d with
            | zero =>
              intro i hi G2 hinv H locs hP hD hS ls hl
              have hi : i = zk_n k := by omega
              rw [hi] at hinv
              refine lv_iload hx hb dX1_raise_66 (lv_at hl 4 rfl) ?_
              refine lv_aload_n hx hb dX1_raise_68 rfl (lv_at hl 0 rfl) ?_
              refine zx_get1 (v := .int (nI (zk_n k))) hx hb hts hown hK hP 0 rfl 2 (by decide) zf_X1_7 rfl dX1_raise_69 ?_
              refine zr_ige (tgt := 95) hx hb dX1_raise_72 (by decide) (by omega) (by omega) (fun _ => ?_) (fun hno9 => absurd hno9 (by omega))
              have hG2 : ∀ j, j < zk_n k → G2 j = zq_tm k Gd Gf j := fun j hj => (hinv j hj).trans (huc j hj)
              refine sq1 hz uc G2 (fun j hj => by rw [hG2 j hj]; exact zq_tm_lt hk _ _ _) (fun i9 hi9 => ?_) H locs hP hD hS ls (lv_sub hl [0, 1, 2, 3] rfl)
              rw [zq_av_congr hG2, zq_av_tm hk _ _ hi9, zq_sq1, show 2 * (q / 2) + 1 = q by omega]; exact hpw i9 hi9
            | succ d ih9 =>
              intro i hi G2 hinv H locs hP hD hS ls hl
              refine lv_iload hx hb dX1_raise_66 (lv_at hl 4 rfl) ?_
              refine lv_aload_n hx hb dX1_raise_68 rfl (lv_at hl 0 rfl) ?_
              refine zx_get1 (v := .int (nI (zk_n k))) hx hb hts hown hK hP 0 rfl 2 (by decide) zf_X1_7 rfl dX1_raise_69 ?_
              refine zr_ige (tgt := 95) hx hb dX1_raise_72 (by decide) (by omega) (by omega) (fun hno9 => absurd hno9 (by omega)) (fun _ => ?_)
              refine lv_aload_n hx hb dX1_raise_75 rfl (lv_at hl 0 rfl) ?_
              refine zx_get1 (v := .ref (mo 5)) hx hb hts hown hK hP 0 rfl 8 (by decide) zf_X1_29 rfl dX1_raise_76 ?_
              refine lv_iload hx hb dX1_raise_79 (lv_at hl 4 rfl) ?_
              refine lv_aload_n hx hb dX1_raise_81 rfl (lv_at hl 0 rfl) ?_
              refine zx_get1 (v := .ref (mo 4)) hx hb hts hown hK hP 0 rfl 7 (by decide) zf_X1_26 rfl dX1_raise_82 ?_
              refine lv_iload hx hb dX1_raise_85 (lv_at hl 4 rfl) ?_
              refine zr_iald (y := uc i) hx hb hK hP 4 0 rfl rfl (by omega) (by decide) rfl dX1_raise_87 ?_
              refine zr_iast (ws' := (zm_w cA mo th k (zk_n k) (zk_t k) F fa Gf uc (zq_up G2 i (uc i)) ++ wr)) hx hb hK hP hD hS 5 0 rfl rfl (by omega) (by decide) dX1_raise_88 rfl (fun H locs hP hD hS => ?_)
              refine zr_iinc (k := 4) (lv' := [(6, .int (nI (i + 1))), (0, .ref (mo 0)), (1, .ref (mo 3)), (2, .long (lN (e0))), (4, .long (lN (q)))]) hx hb dX1_raise_89 hl rfl (by decide) rfl (fun ls hl => ?_)
              refine lv_goto (tgt := 66) hx hb dX1_raise_92 (by decide) ?_
              refine ih9 (i + 1) (by omega) _ (fun j hj => ?_) H locs hP hD hS ls (lv_sub hl [1, 2, 3, 4, 0] rfl)
              by_cases e9 : j = i
              · rw [e9, zq_up_s]
              · rw [zq_up_n _ _ e9]; exact hinv j (by omega)
          exact loop (zk_n k) 0 (by omega) Gd (fun j hj => absurd hj (Nat.not_lt_zero _)) H locs hP hD hS ls (lv_sub hl [1, 2, 3, 4, 0] rfl)
  refine lv_iconst (v := nI 0) hx hb dX1_raise_0 (by decide) ?_
  refine lv_istore (lv' := [(4, .int (nI (0))), (0, .ref (mo 0)), (1, .ref (mo 3)), (2, .long (lN (e0)))]) hx hb dX1_raise_1 hl (by decide) rfl (fun ls hl => ?_)
  have first : ∀ (d i : Nat), i + d = zk_n k → ∀ (G1 : Nat → Nat), (∀ j, j < i → G1 j = (if j = 0 then 1 else 0)) → ∀ (H : Heap) (locs : List Loc), va_P (dC, dI) zz_cl (zm_w cA mo th k (zk_n k) (zk_t k) F fa fb fc G1 ++ wr) H → va_D A (zm_w cA mo th k (zk_n k) (zk_t k) F fa fb fc G1 ++ wr) → va_S A s.heap H locs → ∀ ls, lv_has ls 7 [(0, .ref (mo 0)), (1, .ref (mo 3)), (2, .long (lN (e0))), (4, .int (nI (i)))] → W p l e (headSpec wzX1_raise (k2_rm 2 48)).room s m ([.ref (mo 0), .ref (mo 3), .long (lN (e0))] : List Value).toArray below meth c H locs 0 0 (MQ below (va_Qv (fun (u : (Nat → Nat) × (Nat → Nat) × (Nat → Nat)) => (∀ j, j < zk_n k → u.1 j < zk_t k) ∧ ∀ i, i < zk_n k → zq_av k u.1 i = zq_av k fb i ^ e0 % zk_t k) (zw_at (dC, dI) zz_cl ((cA, .int) :: tr) A (fun (u : (Nat → Nat) × (Nat → Nat) × (Nat → Nat)) => zm_w cA mo th k (zk_n k) (zk_t k) F fa u.1 u.2.1 u.2.2 ++ wr)) A) ([.ref (mo 0), .ref (mo 3), .long (lN (e0))] : List Value).toArray s 0 0 A) (F0 m 3 ls []) := by
    intro d
    induction d with
    | zero =>
      intro i hi G1 hinv H locs hP hD hS ls hl
      have hi : i = zk_n k := by omega
      rw [hi] at hinv
      refine lv_iload hx hb dX1_raise_3 (lv_at hl 3 rfl) ?_
      refine lv_aload_n hx hb dX1_raise_5 rfl (lv_at hl 0 rfl) ?_
      refine zx_get1 (v := .int (nI (zk_n k))) hx hb hts hown hK hP 0 rfl 2 (by decide) zf_X1_7 rfl dX1_raise_6 ?_
      refine zr_ige (tgt := 35) hx hb dX1_raise_9 (by decide) (by omega) (by omega) (fun _ => ?_) (fun hno9 => absurd hno9 (by omega))
      refine lv_lload_n hx hb dX1_raise_35 rfl (lv_at hl 2 rfl) ?_
      refine lv_lstore (lv' := [(4, .long (lN (e0))), (0, .ref (mo 0)), (1, .ref (mo 3)), (2, .long (lN (e0)))]) hx hb dX1_raise_36 hl (by decide) rfl (fun ls hl => ?_)
      refine main e0 he0 fb fc G1 hG (fun j hj => ?_) (fun i9 hi9 => ?_) H locs hP hD hS ls (lv_sub hl [1, 2, 3, 0] rfl)
      · rw [hinv j hj]; split <;> omega
      · rw [zq_av_congr hinv, zq_av_0 hk, Nat.one_mul]
    | succ d ih =>
      intro i hi G1 hinv H locs hP hD hS ls hl
      refine lv_iload hx hb dX1_raise_3 (lv_at hl 3 rfl) ?_
      refine lv_aload_n hx hb dX1_raise_5 rfl (lv_at hl 0 rfl) ?_
      refine zx_get1 (v := .int (nI (zk_n k))) hx hb hts hown hK hP 0 rfl 2 (by decide) zf_X1_7 rfl dX1_raise_6 ?_
      refine zr_ige (tgt := 35) hx hb dX1_raise_9 (by decide) (by omega) (by omega) (fun hno9 => absurd hno9 (by omega)) (fun _ => ?_)
      refine lv_aload_n hx hb dX1_raise_12 rfl (lv_at hl 0 rfl) ?_
      refine zx_get1 (v := .ref (mo 5)) hx hb hts hown hK hP 0 rfl 8 (by decide) zf_X1_29 rfl dX1_raise_13 ?_
      refine lv_iload hx hb dX1_raise_16 (lv_at hl 3 rfl) ?_
      refine lv_iload hx hb dX1_raise_18 (lv_at hl 3 rfl) ?_
      refine zr_ifne (tgt := 27) hx hb dX1_raise_20 (by decide) (by omega) (fun hz => ?_) (fun hz => ?_)
      · refine lv_iconst (v := nI 0) hx hb dX1_raise_27 (by decide) ?_
        refine zr_iast (ws' := (zm_w cA mo th k (zk_n k) (zk_t k) F fa fb fc (zq_up G1 i 0) ++ wr)) hx hb hK hP hD hS 5 0 rfl rfl (by omega) (by decide) dX1_raise_28 rfl (fun H locs hP hD hS => ?_)
        refine zr_iinc (k := 3) (lv' := [(4, .int (nI (i + 1))), (0, .ref (mo 0)), (1, .ref (mo 3)), (2, .long (lN (e0)))]) hx hb dX1_raise_29 hl rfl (by decide) rfl (fun ls hl => ?_)
        refine lv_goto (tgt := 3) hx hb dX1_raise_32 (by decide) ?_
        refine ih (i + 1) (by omega) _ (fun j hj => ?_) H locs hP hD hS ls (lv_sub hl [1, 2, 3, 0] rfl)
        by_cases e9 : j = i
        · rw [e9, zq_up_s, if_neg hz]
        · rw [zq_up_n _ _ e9]; exact hinv j (by omega)
      · refine lv_iconst (v := nI 1) hx hb dX1_raise_23 (by decide) ?_
        refine lv_goto (tgt := 28) hx hb dX1_raise_24 (by decide) ?_
        refine zr_iast (ws' := (zm_w cA mo th k (zk_n k) (zk_t k) F fa fb fc (zq_up G1 i 1) ++ wr)) hx hb hK hP hD hS 5 0 rfl rfl (by omega) (by decide) dX1_raise_28 rfl (fun H locs hP hD hS => ?_)
        refine zr_iinc (k := 3) (lv' := [(4, .int (nI (i + 1))), (0, .ref (mo 0)), (1, .ref (mo 3)), (2, .long (lN (e0)))]) hx hb dX1_raise_29 hl rfl (by decide) rfl (fun ls hl => ?_)
        refine lv_goto (tgt := 3) hx hb dX1_raise_32 (by decide) ?_
        refine ih (i + 1) (by omega) _ (fun j hj => ?_) H locs hP hD hS ls (lv_sub hl [1, 2, 3, 0] rfl)
        by_cases e9 : j = i
        · rw [e9, zq_up_s, if_pos hz]
        · rw [zq_up_n _ _ e9]; exact hinv j (by omega)
  exact first (zk_n k) 0 (by omega) fd (fun j hj => absurd hj (Nat.not_lt_zero _)) s.heap [] hP hD hS ls (lv_sub hl [1, 2, 3, 0] rfl)
