/-! the law: what stays the same through it, and its rows -/
abbrev lA (s : State) : Nat → Prop := fun q => s.heap.size ≤ q
def lC (l : Launch) (K : zK) (GC GM : Nat → Nat) (AC AM : Nat → Prop) (o b L : Nat) (xs : Nat → Int32) (p : Program) (s : State) (m : MethodId) (c : Code) : Prop :=
  zFx K zR_L zb_L_law p s m #[.ref b] c ∧ c.maxLocals = 8 ∧ va_X b L xs s s.heap ∧ b < s.heap.size ∧ zTh s ∧ l.stackTraces = false ∧ (∀ σ, va_D AC (cW K GC σ)) ∧ (∀ σ, va_D AM (mW K GM σ)) ∧ (∀ q, AC q → AM q → False) ∧ ¬ AC o ∧ ¬ AM o ∧ (∀ q, AC q → lA s q) ∧ (∀ q, AM q → lA s q) ∧ lA s o
abbrev lLv (b i o : Nat) (GC GM : Nat → Nat) : List (Nat × Value) := [(4, .int (nI i)), (3, .ref o), (2, .ref (GM 0)), (1, .ref (GC 0)), (0, .ref b)]
abbrev lO (K : zK) (o : Nat) (f : Nat → Int64) : va_W := [(o, .inl (K.2.2.1, 1, .inr (.inl f)))]
theorem z_rmL {k maxL : Nat} (hk : k ≤ 100) (h2 : maxL ≤ 21) : (zrm k).frames + 1 ≤ room_1.frames ∧ 8 + (maxL + 11) + (zrm k).locals ≤ room_1.locals := by
  simp only [zrm, room_1]
  omega
theorem and15 (y : Int32) : ∃ k, k < 16 ∧ y &&& nI 15 = nI k := by
  refine ⟨(y.toBitVec &&& 15#32).toNat, ?_, ?_⟩
  · rw [BitVec.toNat_and]
    exact Nat.lt_of_le_of_lt Nat.and_le_right (by decide)
  · apply Int32.toBitVec_inj.mp
    show (y &&& nI 15).toBitVec = (Int32.ofNat _).toBitVec
    rw [Int32.toBitVec_and, Int32.toBitVec_ofNat']
    simp [nI]
theorem z_step {L i : Nat} (hL : L ≤ 3072) (hi : i ≤ 4000) : nI L - nI 6 < nI i ↔ L < i + 6 := by
  by_cases h : 6 ≤ L
  · rw [pk_sub h, nI_ltI (by omega) (by omega)]
    omega
  · have h1 : nI L - nI 6 < 0 := by
      rcases (show L = 0 ∨ L = 1 ∨ L = 2 ∨ L = 3 ∨ L = 4 ∨ L = 5 by omega) with rfl | rfl | rfl | rfl | rfl | rfl <;> decide
    have h2 : (0 : Int32) ≤ nI i := z_ge0 (by omega)
    exact ⟨fun _ => by omega, fun _ => Int32.lt_of_lt_of_le h1 h2⟩
section LAW
variable {p : Program} {l : Launch} {e : Env} {R : Room} {s : State} {m : MethodId} {args : Array Value} {below : List Frame} {meth : Method} {c : Code} {H : Heap} {locs : List Loc} {cells slots : Nat} {Q : State → Prop}
variable {K : zK} {own : String} {cc : ByteArray} {pc : Nat} {ls : Array Slot} {rest : List Value} {A A1 : Nat → Prop} {w : va_W} {H0 : Heap}
theorem z_sld (X : zFx K own cc p s m args c) {b L i : Nat} {xs : Nat → Int32} (hX : va_X b L xs s s.heap) (hbl : b < s.heap.size) (hS : va_S (lA s) s.heap H locs) (hi : i < L) (hL : L ≤ 3072) (hdg : decode cc pc = .ok (.iaload, 1))
    (kk : W p l e R s m args below meth c H locs cells slots Q (F0 m (pc + 1) ls (.int (xs i) :: rest))) : W p l e R s m args below meth c H locs cells slots Q (F0 m pc ls (.int (nI i) :: .ref b :: rest)) := by
  refine va_sld X.1 X.2.1 hX hbl (Nat.not_le.mpr hbl) hS (vp_in_nI hi (by omega)) hdg ?_
  rw [nI_clamp (by omega)]
  exact kk
theorem z_callPi {y : MethodName} {bytes : ByteArray} {maxL nL n index k : Nat} {ret : Option FieldType} {C : String} {b q0 ci : Nat} {fs : List Value} {qc : vw_C} {As st0 : List Value} {w' : va_W} {r : Int32} (X : zFx K own cc p s m args c) (hml : c.maxLocals = nL) (hM : zMet l K A1 y (Cond.code y bytes maxL ret :: zW) k (.ref b :: As) w w' (some (.int r))) (cw : CallW R s args own C index y bytes maxL ret (Cond.code y bytes maxL ret :: zW) (zrm k) 0 0 n)
    (he : w[q0]? = some (b, .inr (ci, fs))) (hc : zcl[ci]? = some qc) (hC : qc.1 = C) (hP : va_P K.1 zcl w H) (hA : ∀ q, A1 q → A q) (hS : va_S A H0 H locs) (hn : As.length = n) (hsize : ls.size = nL) (hstack : st0 = As.reverse ++ .ref b :: rest) (hW : (rest.map fun v => v.category).sum ≤ 8) (hdg : decode cc pc = .ok (.invokevirtual index, 3)) (hf : cells ≤ R.cells ∧ slots ≤ R.slots)
    (kk : ∀ (H1 : Heap) (locs1 : List Loc), va_P K.1 zcl w' H1 → H.size ≤ H1.size → (∀ q : Nat, q < H.size → ¬ A1 q → H1[q]? = H[q]?) → va_S A H0 H1 locs1 → W p l e R s m args below meth c H1 locs1 cells slots Q (F0 m (pc + 3) ls (.int r :: rest))) : W p l e R s m args below meth c H locs cells slots Q (F0 m pc ls st0) := z_callP X hml hM cw he hc hC hP hA hS hn hsize hstack hW hdg hf kk
theorem z_callPl {y : MethodName} {bytes : ByteArray} {maxL nL n index k : Nat} {ret : Option FieldType} {C : String} {b q0 ci : Nat} {fs : List Value} {qc : vw_C} {As st0 : List Value} {w' : va_W} {r : Int64} (X : zFx K own cc p s m args c) (hml : c.maxLocals = nL) (hM : zMet l K A1 y (Cond.code y bytes maxL ret :: zW) k (.ref b :: As) w w' (some (.long r))) (cw : CallW R s args own C index y bytes maxL ret (Cond.code y bytes maxL ret :: zW) (zrm k) 0 0 n)
    (he : w[q0]? = some (b, .inr (ci, fs))) (hc : zcl[ci]? = some qc) (hC : qc.1 = C) (hP : va_P K.1 zcl w H) (hA : ∀ q, A1 q → A q) (hS : va_S A H0 H locs) (hn : As.length = n) (hsize : ls.size = nL) (hstack : st0 = As.reverse ++ .ref b :: rest) (hW : (rest.map fun v => v.category).sum ≤ 8) (hdg : decode cc pc = .ok (.invokevirtual index, 3)) (hf : cells ≤ R.cells ∧ slots ≤ R.slots)
    (kk : ∀ (H1 : Heap) (locs1 : List Loc), va_P K.1 zcl w' H1 → H.size ≤ H1.size → (∀ q : Nat, q < H.size → ¬ A1 q → H1[q]? = H[q]?) → va_S A H0 H1 locs1 → W p l e R s m args below meth c H1 locs1 cells slots Q (F0 m (pc + 3) ls (.long r :: rest))) : W p l e R s m args below meth c H locs cells slots Q (F0 m pc ls st0) := z_callP X hml hM cw he hc hC hP hA hS hn hsize hstack hW hdg hf kk
end LAW
section LK
variable {K : zK} {GC GM : Nat → Nat} {AC AM : Nat → Prop} {o : Nat} {H H1 : Heap} {σ : cS} {mm : mS} {f : Nat → Int64}
theorem lk_MC (hM : ∀ σ, va_D AM (mW K GM σ)) (hcm : ∀ q, AC q → AM q → False) (hk : ∀ q : Nat, q < H.size → ¬ AC q → H1[q]? = H[q]?) (hP : va_P K.1 zcl (mW K GM mm) H) : va_P K.1 zcl (mW K GM mm) H1 :=
  hP.keep fun i q hi hlt => hk q.1 hlt fun h => hcm q.1 h ((hM mm).2 i q hi)
theorem lk_CM (hC : ∀ σ, va_D AC (cW K GC σ)) (hcm : ∀ q, AC q → AM q → False) (hk : ∀ q : Nat, q < H.size → ¬ AM q → H1[q]? = H[q]?) (hP : va_P K.1 zcl (cW K GC σ) H) : va_P K.1 zcl (cW K GC σ) H1 :=
  hP.keep fun i q hi hlt => hk q.1 hlt fun h => hcm q.1 ((hC σ).2 i q hi) h
theorem lk_O {A1 : Nat → Prop} (ho : ¬ A1 o) (hk : ∀ q : Nat, q < H.size → ¬ A1 q → H1[q]? = H[q]?) (hP : va_P K.1 zcl (lO K o f) H) : va_P K.1 zcl (lO K o f) H1 :=
  hP.keep fun i q hi hlt => hk q.1 hlt fun h => ho (by rw [← (z_Do o).2 i q hi]; exact h)
theorem lk_oC (hC : ∀ σ, va_D AC (cW K GC σ)) (hco : ¬ AC o) (hk : ∀ q : Nat, q < H.size → ¬ (q = o) → H1[q]? = H[q]?) (hP : va_P K.1 zcl (cW K GC σ) H) : va_P K.1 zcl (cW K GC σ) H1 :=
  hP.keep fun i q hi hlt => hk q.1 hlt fun h => hco (by rw [← h]; exact (hC σ).2 i q hi)
theorem lk_oM (hM : ∀ σ, va_D AM (mW K GM σ)) (hmo : ¬ AM o) (hk : ∀ q : Nat, q < H.size → ¬ (q = o) → H1[q]? = H[q]?) (hP : va_P K.1 zcl (mW K GM mm) H) : va_P K.1 zcl (mW K GM mm) H1 :=
  hP.keep fun i q hi hlt => hk q.1 hlt fun h => hmo (by rw [← h]; exact (hM mm).2 i q hi)
theorem lk_all {w : va_W} (hk : ∀ q : Nat, q < H.size → ¬ False → H1[q]? = H[q]?) (hP : va_P K.1 zcl w H) : va_P K.1 zcl w H1 :=
  hP.keep fun i q hi hlt => hk q.1 hlt id
end LK
