/-! the class's two static tables; my own -/
def zs_env (A : Nat → Prop) (U : State) : Prop := ∃ tS tM : Nat, va_Z "ValueRing" "SIZES" "[I" (.ref tS) A U U.heap ∧ va_T .int tS 4 (fun j => .int (nI (zk_n j))) A U U.heap ∧ va_Z "ValueRing" "MODULI" "[I" (.ref tM) A U U.heap ∧ va_T .int tM 4 (fun j => .int (nI (zk_t j))) A U U.heap
theorem zs_env.go {A : Nat → Prop} {s U : State} {H : Heap} {locs : List Loc} (h : zs_env A s) (hvm : s.vm.Alike U.vm) (hU : U.heap = H) (hS : va_S A s.heap H locs) : zs_env A U := by
  obtain ⟨a, b, h1, h2, h3, h4⟩ := h
  refine ⟨a, b, ?_, ?_, ?_, ?_⟩
  · rw [hU]; exact va_Z.moved hvm (h1.kept hS.2.1)
  · rw [hU]; exact va_T.moved hvm (h2.kept hS.2.1)
  · rw [hU]; exact va_Z.moved hvm (h3.kept hS.2.1)
  · rw [hU]; exact va_T.moved hvm (h4.kept hS.2.1)
theorem zs_env.narrow {A B : Nat → Prop} {s : State} (h : zs_env A s) (hAB : ∀ q, B q → A q) : zs_env B s := by
  obtain ⟨a, b, h1, h2, h3, h4⟩ := h
  exact ⟨a, b, h1.narrow hAB, h2.narrow hAB, h3.narrow hAB, h4.narrow hAB⟩
theorem zs_env.calling {A : Nat → Prop} {U : State} {g : JFrame} {mk : MethodId} {a : Array Value} (h : zs_env A U) : zs_env A (U.calling g mk a) :=
  h.go (H := U.heap) (locs := []) (Vm.Alike.refl U.vm) rfl va_S.rf
def zs_pre (D : va_G) (cl : List vw_C) (tys : List (ClassId × FieldType)) (ws : va_W) (sz : Nat) (av : List Value) : Array Value → State → Prop := va_Pc av (fun U => U.heap.size = sz ∧ va_P D cl ws U.heap ∧ va_K D cl tys U ∧ va_D (fun _ => True) ws ∧ zs_env (va_A ws sz) U)
def zb_pre (D : va_G) (cl : List vw_C) (tys : List (ClassId × FieldType)) (ws : va_W) (A : Nat → Prop) (av : List Value) : Array Value → State → Prop := va_Pc av (fun U => va_P D cl ws U.heap ∧ va_K D cl tys U ∧ zx_env A U ∧ zs_env A U)
section ZS
variable {s : State} {H : Heap} {locs : List Loc} {D : va_G} {cl : List vw_C} {A : Nat → Prop} {tys : List (ClassId × FieldType)} {ws : va_W} {H0 : Heap}
theorem zs_blind {av : List Value} {sz : Nat} : FrameBlind (zs_pre D cl tys ws sz av) := fun a U g mk q => by
  obtain ⟨q0, q1, qP, qK, qD, qE⟩ := q
  exact ⟨q0, q1, qP, va_K.moved (u := U) (U := U.calling g mk a) (Vm.Alike.refl U.vm) qK, qD, qE.calling⟩
theorem zs_preV {As : List Value} {b q0 ci : Nat} {q : vw_C} {fs : List Value} (hP : va_P D cl ws H) (hK : va_K D cl tys s) (hD : va_D A ws) (hE : zs_env A s) (hS : va_S A s.heap H locs) (hA : ∀ q, s.heap.size ≤ q → A q) (hc : cl[ci]? = some q) (he : ws[q0]? = some (b, .inr (ci, fs))) : PreV s H q.1 b (zs_pre D cl tys ws H.size (.ref b :: As)) As :=
  ⟨zs_blind, va_recv hK hP hc he, fun U hU hW => ⟨rfl, by rw [hU], by rw [hU]; exact hP, va_K.moved hW.alike hK, hD.weaken (fun _ _ _ _ => trivial), (hE.go hW.alike hU hS).narrow (zw_free hD hS hA)⟩⟩
theorem zb_blind {av : List Value} : FrameBlind (zb_pre D cl tys ws A av) := fun a U g mk q => by
  obtain ⟨q0, qP, qK, qE, qZ⟩ := q
  exact ⟨q0, qP, va_K.moved (u := U) (U := U.calling g mk a) (Vm.Alike.refl U.vm) qK, qE.calling, qZ.calling⟩
end ZS
theorem zk_zt : ∀ k, k < 4 → zk_z k < zk_t k - 1 := by decide
