/-! one call on both sides; my own -/
theorem zy_room {s : State} {pl : Platform} {r r' : Room} (hf : r.frames ≤ r'.frames) (hl : r.locals ≤ r'.locals) (hc : r.cells ≤ r'.cells) (hs : r.slots ≤ r'.slots) (h : s.hasRoom pl r' = true) : s.hasRoom pl r = true := by
  simp only [State.hasRoom, Bool.and_eq_true, decide_eq_true_eq] at h ⊢
  obtain ⟨⟨⟨⟨y, a, b, c, d, e⟩, f⟩, g⟩, i⟩ := h
  exact ⟨⟨⟨⟨by omega, by omega, by omega, by omega, by omega, e⟩, by omega⟩, by omega⟩, i⟩
theorem zy_met {l : Launch} {y : MethodName} {ws : List Cond} {rm rm' : Room} {P : Array Value → State → Prop} {Q Q' : Array Value → State → Outcome → State → Prop} {mc ms : Nat} {free : Addr → Prop} (h : Met l y ws rm P Q mc ms free) (hf : rm.frames ≤ rm'.frames) (hl : rm.locals ≤ rm'.locals) (hc : rm.cells ≤ rm'.cells) (hs : rm.slots ≤ rm'.slots) (hQ : ∀ a s o t, Q a s o t → Q' a s o t) : Met l y ws rm' P Q' mc ms free := by
  intro p e ha hcs hk s m args below hfr happ hP hK
  obtain ⟨a1, a2, a3, a4, a5, a6, a7, a8⟩ := (Spec.appliesLoose_iff hfr).mp happ
  obtain ⟨n, o, h1, h2, h3, h4, h5⟩ := h p e ha hcs hk s m args below hfr ((Spec.appliesLoose_iff hfr).mpr ⟨a1, a2, a3, a4, a5, a6, zy_room hf hl hc hs a7, a8⟩) hP hK
  exact ⟨n, o, h1, h2, h3, hQ _ _ _ _ h4, h5⟩
section ZY
variable (l : Launch) (dC : Nat → ClassId) (dI : Nat → Nat → Nat) (cA : ClassId) (tr : List (ClassId × FieldType)) (wr : va_W) (mo : Nat → Nat) (th k : Nat) (F fa fb fc fd : Nat → Nat) (sz : Nat) (y : MethodName) (ws : List Cond) (av : List Value) (x : Nat)
def zy_M (r0 : Int32) (k1 : Nat) (pf : (Nat → Nat) → Prop) : Prop := Met l y ws (k2_rm 8 300) (zw_pre (dC, dI) zz_cl ((cA, .int) :: tr) (zm_w cA mo th k (zk_n k) (zk_t k) F fa fb fc fd ++ wr) sz av) (va_Qi (fun r (u : zq_U) => r = r0 ∧ pf u.1) (zw_at (dC, dI) zz_cl ((cA, .int) :: tr) (va_A (zm_w cA mo th k (zk_n k) (zk_t k) F fa fb fc fd ++ wr) sz) (fun u : zq_U => zm_w cA mo x k1 (zk_n k1) (zk_t k1) u.1 u.2.1 u.2.2.1 u.2.2.2.1 u.2.2.2.2 ++ wr)) (va_A (zm_w cA mo th k (zk_n k) (zk_t k) F fa fb fc fd ++ wr) sz)) 0 0 (va_A (zm_w cA mo th k (zk_n k) (zk_t k) F fa fb fc fd ++ wr) sz)
def zy_ML (r0 : Int64) (k1 : Nat) (pf : (Nat → Nat) → Prop) : Prop := Met l y ws (k2_rm 8 300) (zw_pre (dC, dI) zz_cl ((cA, .int) :: tr) (zm_w cA mo th k (zk_n k) (zk_t k) F fa fb fc fd ++ wr) sz av) (va_Ql (fun r (u : zq_U) => r = r0 ∧ pf u.1) (zw_at (dC, dI) zz_cl ((cA, .int) :: tr) (va_A (zm_w cA mo th k (zk_n k) (zk_t k) F fa fb fc fd ++ wr) sz) (fun u : zq_U => zm_w cA mo x k1 (zk_n k1) (zk_t k1) u.1 u.2.1 u.2.2.1 u.2.2.2.1 u.2.2.2.2 ++ wr)) (va_A (zm_w cA mo th k (zk_n k) (zk_t k) F fa fb fc fd ++ wr) sz)) 0 0 (va_A (zm_w cA mo th k (zk_n k) (zk_t k) F fa fb fc fd ++ wr) sz)
end ZY
section ZY2
variable {l : Launch} {dC : Nat → ClassId} {dI : Nat → Nat → Nat} {cA : ClassId} {tr : List (ClassId × FieldType)} {wr : va_W} {mo : Nat → Nat} {th k : Nat} {F fa fb fc fd : Nat → Nat} {sz : Nat} {y : MethodName} {ws : List Cond} {av : List Value} {x : Nat}
theorem zy_wk {r0 : Int32} {k1 : Nat} {pf : (Nat → Nat) → Prop} {f lo : Nat} {post : Int32 → zq_U → Prop} (h : Met l y ws (k2_rm f lo) (zw_pre (dC, dI) zz_cl ((cA, .int) :: tr) (zm_w cA mo th k (zk_n k) (zk_t k) F fa fb fc fd ++ wr) sz av) (va_Qi post (zw_at (dC, dI) zz_cl ((cA, .int) :: tr) (va_A (zm_w cA mo th k (zk_n k) (zk_t k) F fa fb fc fd ++ wr) sz) (fun u : zq_U => zm_w cA mo x k1 (zk_n k1) (zk_t k1) u.1 u.2.1 u.2.2.1 u.2.2.2.1 u.2.2.2.2 ++ wr)) (va_A (zm_w cA mo th k (zk_n k) (zk_t k) F fa fb fc fd ++ wr) sz)) 0 0 (va_A (zm_w cA mo th k (zk_n k) (zk_t k) F fa fb fc fd ++ wr) sz)) (hf : f ≤ 8) (hlo : lo ≤ 300) (hp : ∀ (r : Int32) (u : zq_U), post r u → r = r0 ∧ pf u.1) : zy_M l dC dI cA tr wr mo th k F fa fb fc fd sz y ws av x r0 k1 pf :=
  zy_met h hf hlo (Nat.le_refl _) (Nat.le_refl _) (fun a s o t q => by
    obtain ⟨⟨r, u, h1, h2, h3⟩, h4⟩ := q
    exact ⟨⟨r, u, h1, hp r u h2, h3⟩, h4⟩)
theorem zy_wkL {r0 : Int64} {k1 : Nat} {pf : (Nat → Nat) → Prop} {f lo : Nat} {post : Int64 → zq_U → Prop} (h : Met l y ws (k2_rm f lo) (zw_pre (dC, dI) zz_cl ((cA, .int) :: tr) (zm_w cA mo th k (zk_n k) (zk_t k) F fa fb fc fd ++ wr) sz av) (va_Ql post (zw_at (dC, dI) zz_cl ((cA, .int) :: tr) (va_A (zm_w cA mo th k (zk_n k) (zk_t k) F fa fb fc fd ++ wr) sz) (fun u : zq_U => zm_w cA mo x k1 (zk_n k1) (zk_t k1) u.1 u.2.1 u.2.2.1 u.2.2.2.1 u.2.2.2.2 ++ wr)) (va_A (zm_w cA mo th k (zk_n k) (zk_t k) F fa fb fc fd ++ wr) sz)) 0 0 (va_A (zm_w cA mo th k (zk_n k) (zk_t k) F fa fb fc fd ++ wr) sz)) (hf : f ≤ 8) (hlo : lo ≤ 300) (hp : ∀ (r : Int64) (u : zq_U), post r u → r = r0 ∧ pf u.1) : zy_ML l dC dI cA tr wr mo th k F fa fb fc fd sz y ws av x r0 k1 pf :=
  zy_met h hf hlo (Nat.le_refl _) (Nat.le_refl _) (fun a s o t q => by
    obtain ⟨⟨r, u, h1, h2, h3⟩, h4⟩ := q
    exact ⟨⟨r, u, h1, hp r u h2, h3⟩, h4⟩)
end ZY2
section ZY3
variable (l : Launch) (dC : Nat → ClassId) (dI : Nat → Nat → Nat) (cA cR cL : ClassId) (tr : List (ClassId × FieldType)) (mo ad : Nat → Nat) (o k : Nat) (P : Nat → Nat) (V : Nat → Nat → Nat) (F : Nat → Nat) (yL : MethodName) (wL : List Cond) (aL : List Value) (yM : MethodName) (wM : List Cond) (aM : List Value)
/-- the wrapper and the reference's method: both tell x; if that is 0, the same answer; both then hold the same -/
def zy_SI : Prop := ∃ (x : Nat) (a : Int64) (r0 : Int32) (k1 : Nat) (pv : (Nat → Nat) → (Nat → Nat → Nat) → Prop) (pf : (Nat → Nat) → Prop), (∀ wr S g sz, zl_C l dC dI cA cR cL tr wr ad o k (S, P, V, g) sz yL wL aL x a k1 pv) ∧ (∀ tr wr th fa fb fc fd sz, zy_M l dC dI cA tr wr mo th k F fa fb fc fd sz yM wM aM x r0 k1 pf) ∧ x < 4 ∧ k1 < 4 ∧ (x = 0 → r0.toInt64 = a) ∧ ∀ P1 V1 F1, pv P1 V1 → pf F1 → zy_R k1 P1 V1 F1
def zy_SZ : Prop := ∃ (x : Nat) (a : Int64) (b k1 : Nat) (pv : (Nat → Nat) → (Nat → Nat → Nat) → Prop) (pf : (Nat → Nat) → Prop), (∀ wr S g sz, zl_C l dC dI cA cR cL tr wr ad o k (S, P, V, g) sz yL wL aL x a k1 pv) ∧ (∀ tr wr th fa fb fc fd sz, zy_M l dC dI cA tr wr mo th k F fa fb fc fd sz yM wM aM x (nI b) k1 pf) ∧ x < 4 ∧ k1 < 4 ∧ b < 2 ∧ (x = 0 → a = lN b) ∧ ∀ P1 V1 F1, pv P1 V1 → pf F1 → zy_R k1 P1 V1 F1
def zy_SL : Prop := ∃ (x : Nat) (a r0 : Int64) (k1 : Nat) (pv : (Nat → Nat) → (Nat → Nat → Nat) → Prop) (pf : (Nat → Nat) → Prop), (∀ wr S g sz, zl_C l dC dI cA cR cL tr wr ad o k (S, P, V, g) sz yL wL aL x a k1 pv) ∧ (∀ tr wr th fa fb fc fd sz, zy_ML l dC dI cA tr wr mo th k F fa fb fc fd sz yM wM aM x r0 k1 pf) ∧ x < 4 ∧ k1 < 4 ∧ (x = 0 → r0 = a) ∧ ∀ P1 V1 F1, pv P1 V1 → pf F1 → zy_R k1 P1 V1 F1
end ZY3
