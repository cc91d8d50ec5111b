/-! the frame: one world for a whole object with all that it holds; contracts say how a method moves it -/
/-- slots' numbers, and the numbers of int[], long[], boolean[] -/
abbrev zK : Type := va_G × ClassId × ClassId × ClassId
abbrev zty (K : zK) : List (ClassId × FieldType) := [(K.2.1, .int), (K.2.2.1, .long), (K.2.2.2, .boolean)]
abbrev zcl : List vw_C := [(zR_T, zF_T, 7), (zR_A, zF_A, 9), (zR_M, zF_M, 7), (zR_W, zF_W, 4), (zR_R, zF_R, 26)]
def zrm (n : Nat) : Room := { frames := n, cells := 0, slots := 0, locals := 40 * n }
/-- what stays the same through a method's body -/
def zFx (K : zK) (own : String) (cc : ByteArray) (p : Program) (s : State) (m : MethodId) (args : Array Value) (c : Code) : Prop :=
  p.tables.exec = Jvm.exec ∧ c.code = cc ∧ s.vm.findClass own = some m.cls ∧ (∀ w ∈ zW, w.before args s = true) ∧ va_K K.1 zcl (zty K) s
/-- a method's start: its arguments, and a world -/
def zPre (K : zK) (w : va_W) (av : List Value) : Array Value → State → Prop := fun v U => v = av.toArray ∧ va_P K.1 zcl w U.heap ∧ va_K K.1 zcl (zty K) U
/-- its end: what it answers, the world behind it, and nothing else has changed -/
def zPost (K : zK) (A : Nat → Prop) (w : va_W) (o : Option Value) : Array Value → State → Outcome → State → Prop := fun _ st oc t => oc = .returned o ∧ va_P K.1 zcl w t.heap ∧ va_F A st t
/-- the contract: from world w with arguments av it answers o and leaves world w' -/
def zMet (l : Launch) (K : zK) (A : Nat → Prop) (y : MethodName) (ws : List Cond) (n : Nat) (av : List Value) (w w' : va_W) (o : Option Value) : Prop :=
  Met l y ws (zrm n) (zPre K w av) (zPost K A w' o) 0 0 A
theorem zPre_blind {K : zK} {w : va_W} {av : List Value} : FrameBlind (zPre K w av) := by
  intro a U g mk h
  obtain ⟨q0, qP, qK⟩ := h
  exact ⟨q0, qP, va_K.moved (u := U) (U := U.calling g mk a) (Vm.Alike.refl U.vm) qK⟩
theorem z_good {w : Cond} (h : w ∈ zW) : w ∈ zW ∧ ((w.onTables && w.keeps) = true ∨ ∃ ty, w = .arrayClass ty) :=
  ⟨h, good_of_word (List.mem_filter.mp h).2⟩
theorem z_goodV {own C : String} {idx : Nat} {y : MethodName} {c0 : Cond} (h1 : Cond.methodLink own idx y ∈ zW) (h2 : Cond.instanceMethod y ∈ zW) (h3 : Cond.selects C y y ∈ zW) (h4 : Cond.initialized C ∈ zW) (h5 : c0 ∈ zW) : GoodIn zW (wsV own idx C y (c0 :: zW)) := by
  intro w hw
  simp only [wsV, List.cons_append, List.nil_append, List.mem_cons] at hw
  rcases hw with rfl | rfl | rfl | rfl | rfl | hw
  · exact z_good h1
  · exact z_good h2
  · exact z_good h3
  · exact z_good h4
  · exact z_good h5
  · exact z_good hw
theorem z_goodS {own : String} {idx : Nat} {y : MethodName} {c0 : Cond} (h1 : Cond.methodLink own idx y ∈ zW) (h2 : Cond.static y ∈ zW) (h4 : Cond.initialized y.cls ∈ zW) (h5 : c0 ∈ zW) : GoodIn zW (va_wsS own idx y (c0 :: zW)) := by
  intro w hw
  simp only [va_wsS, List.cons_append, List.nil_append, List.mem_cons] at hw
  rcases hw with rfl | rfl | rfl | rfl | hw
  · exact z_good h1
  · exact z_good h2
  · exact z_good h4
  · exact z_good h5
  · exact z_good hw
theorem z_rm {n n' maxL : Nat} (h : n + 1 ≤ n') (h2 : maxL ≤ 21) : (zrm n).frames + 1 ≤ (zrm n').frames ∧ 8 + (maxL + 11) + (zrm n).locals ≤ (zrm n').locals := by
  simp only [zrm]
  omega
section ZF
variable {p : Program} {l : Launch} {e : Env} {R : Room} {s : State} {m : MethodId} {args : Array Value} {below : List Frame} {meth : Method} {c : Code} {H : Heap} {locs : List Loc} {cells slots : Nat} {Q : State → Prop}
variable {K : zK} {own : String} {cc : ByteArray} {pc : Nat} {ls : Array Slot} {rest : List Value} {A : Nat → Prop} {w : va_W} {H0 : Heap}
theorem z_entry {y : MethodName} {maxL n : Nat} {ret : Option FieldType} {av : List Value} {Qc : Array Value → State → Outcome → State → Prop} (hy : plainName y.cls = true) (hn : (lg_sl av).length ≤ maxL)
    (body : ∀ (p : Program) (e : Env) (s : State) (m : MethodId) (below : List Frame) (meth : Method) (c : Code) (ls : Array Slot), zFx K y.cls cc p s m av.toArray c → meth.sig.returnType = ret → c.maxLocals = maxL → meth.locks = false → va_P K.1 zcl w s.heap → lv_has ls maxL (lv_args 0 av) →
      W p l e (zrm n) s m av.toArray below meth c s.heap [] 0 0 (MQ below Qc av.toArray s 0 0 A) (F0 m 0 ls [])) :
    Met l y (Cond.code y cc maxL ret :: zW) (zrm n) (zPre K w av) Qc 0 0 A := by
  refine Met.ofW (cc := cc) (maxL := maxL) (ret := ret) hy rfl ?_
  intro p e s m args below meth c s₁ B hml hv
  obtain ⟨rfl, hP, hK⟩ := hv
  have hts := atoms_spec (ws := Cond.code y cc maxL ret :: zW) B.pre
  have hown : s.vm.findClass y.cls = some m.cls := findClass_of_methodNamed B.named
  have hl := lv_entry av (n := maxL) hn
  rw [lg_entry_eq]
  exact body p e s m below meth c _ ⟨B.exec, B.bytes, hown, fun w hw => hts w (List.mem_cons_of_mem _ hw), hK⟩ B.returns hml B.notSynchronized hP hl
theorem z_iret {v v' : Int32} {w' : va_W} (hx : p.tables.exec = Jvm.exec) (hb : c.code = cc) (hr : meth.sig.returnType = some .int) (hlocks : meth.locks = false) (hv : v = v') (hw : w = w') (hP : va_P K.1 zcl w H) (hS : va_S A s.heap H locs) (hdg : decode cc pc = .ok (.ireturn, 1)) :
    W p l e R s m args below meth c H locs 0 0 (MQ below (zPost K A w' (some (.int v'))) args s 0 0 A) (F0 m pc ls [.int v]) := by
  subst hv; subst hw
  exact W.iret hx hb hr (fun t ht hW => ⟨rfl, by rw [ht]; exact hP, hS.F ht⟩) hS.2.2 hdg
theorem z_zret {v v' : Int32} {w' : va_W} (hx : p.tables.exec = Jvm.exec) (hb : c.code = cc) (hr : meth.sig.returnType = some .boolean) (hlocks : meth.locks = false) (hn : v = 0 ∨ v = 1) (hv : v = v') (hw : w = w') (hP : va_P K.1 zcl w H) (hS : va_S A s.heap H locs) (hdg : decode cc pc = .ok (.ireturn, 1)) :
    W p l e R s m args below meth c H locs 0 0 (MQ below (zPost K A w' (some (.int v'))) args s 0 0 A) (F0 m pc ls [.int v]) := by
  subst hv; subst hw
  exact W.zret hx hb hr (by rcases hn with rfl | rfl <;> rfl) (fun t ht hW => ⟨rfl, by rw [ht]; exact hP, hS.F ht⟩) hS.2.2 hdg
theorem z_lret {v v' : Int64} {w' : va_W} (hx : p.tables.exec = Jvm.exec) (hb : c.code = cc) (hr : meth.sig.returnType = some .long) (hlocks : meth.locks = false) (hv : v = v') (hw : w = w') (hP : va_P K.1 zcl w H) (hS : va_S A s.heap H locs) (hdg : decode cc pc = .ok (.lreturn, 1)) :
    W p l e R s m args below meth c H locs 0 0 (MQ below (zPost K A w' (some (.long v'))) args s 0 0 A) (F0 m pc ls [.long v]) := by
  subst hv; subst hw
  exact W.lret hx hb hr (fun t ht hW => ⟨rfl, by rw [ht]; exact hP, hS.F ht⟩) hS.2.2 hdg
theorem z_vret {w' : va_W} (hx : p.tables.exec = Jvm.exec) (hb : c.code = cc) (hr : meth.sig.returnType = none) (hlocks : meth.locks = false) (hw : w = w') (hP : va_P K.1 zcl w H) (hS : va_S A s.heap H locs) (hdg : decode cc pc = .ok (.return_, 1)) :
    W p l e R s m args below meth c H locs 0 0 (MQ below (zPost K A w' none) args s 0 0 A) (F0 m pc ls []) := by
  subst hw
  exact W.vret hx hb hr (fun t ht hW => ⟨rfl, by rw [ht]; exact hP, hS.F ht⟩) hS.2.2 hdg
/-- the value on top, said otherwise -/
theorem z_top {x y : Int32} (h : x = y) (k : W p l e R s m args below meth c H locs cells slots Q (F0 m pc ls (.int y :: rest))) : W p l e R s m args below meth c H locs cells slots Q (F0 m pc ls (.int x :: rest)) := by rw [h]; exact k
theorem z_topl {x y : Int64} (h : x = y) (k : W p l e R s m args below meth c H locs cells slots Q (F0 m pc ls (.long y :: rest))) : W p l e R s m args below meth c H locs cells slots Q (F0 m pc ls (.long x :: rest)) := by rw [h]; exact k
/-- a field is read -/
theorem z_get (X : zFx K own cc p s m args c) {C : String} {T : u_T} {N ci index q0 a : Nat} {fs : List Value} {v : Value} (hin : ∀ w ∈ u_ws C T N, w ∈ zW) (hP : va_P K.1 zcl w H) (he : w[q0]? = some (a, .inr (ci, fs))) (hc : zcl[ci]? = some (C, T, N)) (k : Nat) (hk : k < N) (hl : Cond.fieldLink own index (T k).1 (T k).2.1 (T k).2.2.1 ∈ zW) (hv : fs[k]? = some v) (hdg : decode cc pc = .ok (.getfield index, 3))
    (kk : W p l e R s m args below meth c H locs cells slots Q (F0 m (pc + 3) ls (v :: rest))) : W p l e R s m args below meth c H locs cells slots Q (F0 m pc ls (.ref a :: rest)) :=
  va_get (D := K.1) (ref := (T k).1) X.1 X.2.1 X.2.2.2.1 hin X.2.2.1 X.2.2.2.2 hP q0 he hc k hk (X.2.2.2.1 _ hl) (fun _ h9 => h9) hv hdg kk
/-- a field that isn't final is written -/
theorem z_put (X : zFx K own cc p s m args c) {C : String} {T : u_T} {N ci index q0 a : Nat} {fs : List Value} {v : Value} {w' : va_W} (ty0 : Nat → FieldType) (hin : ∀ w ∈ u_ws C T N, w ∈ zW) (hty : ∀ k, k < N → parseFieldDescriptor (T k).2.2.1 = some (ty0 k)) (hnm : ∀ a, a < N → ∀ b, b < N → a ≠ b → (T a).2.1 ≠ (T b).2.1) (hP : va_P K.1 zcl w H) (hD : va_D A w) (hS : va_S A H0 H locs) (he : w[q0]? = some (a, .inr (ci, fs))) (hc : zcl[ci]? = some (C, T, N)) (k : Nat) (hk : k < N) (hl : Cond.fieldLink own index (T k).1 (T k).2.1 (T k).2.2.1 ∈ zW) (hfin : (T k).2.2.2 = false) (hn : narrow (ty0 k) v = v) (hfit : fits (ty0 k) v = true) (hlen : k < fs.length) (hw : w.set q0 (a, .inr (ci, fs.set k v)) = w') (hdg : decode cc pc = .ok (.putfield index, 3))
    (kk : ∀ (H1 : Heap) (locs1 : List Loc), va_P K.1 zcl w' H1 → va_S A H0 H1 locs1 → W p l e R s m args below meth c H1 locs1 cells slots Q (F0 m (pc + 3) ls rest)) : W p l e R s m args below meth c H locs cells slots Q (F0 m pc ls (v :: .ref a :: rest)) := by
  refine va_put (D := K.1) (ref := (T k).1) X.1 X.2.1 X.2.2.2.1 hin ty0 hty hnm X.2.2.1 X.2.2.2.2 hP hD hS q0 he hc k hk (X.2.2.2.1 _ hl) (fun _ h9 => h9) hfin (hty k hk) hn hfit hlen hdg (fun H1 locs1 h1 _ h3 => ?_)
  rw [hw] at h1
  exact kk H1 locs1 h1 h3
theorem z_iald (X : zFx K own cc p s m args c) {q0 a n : Nat} {f : Nat → Int32} {i : Nat} {v : Int32} (hP : va_P K.1 zcl w H) (ha : w[q0]? = some (a, .inl (K.2.1, n, .inl f))) (hi : i < n) (hn : n < 2 ^ 31) (hv : f i = v) (hdg : decode cc pc = .ok (.iaload, 1))
    (kk : W p l e R s m args below meth c H locs cells slots Q (F0 m (pc + 1) ls (.int v :: rest))) : W p l e R s m args below meth c H locs cells slots Q (F0 m pc ls (.int (nI i) :: .ref a :: rest)) := by
  refine va_iald (D := K.1) X.1 X.2.1 X.2.2.2.2 hP q0 0 ha rfl (vp_in_nI hi hn) hdg ?_
  rw [nI_clamp (Nat.lt_trans hi hn), hv]
  exact kk
theorem z_lald (X : zFx K own cc p s m args c) {q0 a n : Nat} {f : Nat → Int64} {i : Nat} (hP : va_P K.1 zcl w H) (ha : w[q0]? = some (a, .inl (K.2.2.1, n, .inr (.inl f)))) (hi : i < n) (hn : n < 2 ^ 31) (hdg : decode cc pc = .ok (.laload, 1))
    (kk : W p l e R s m args below meth c H locs cells slots Q (F0 m (pc + 1) ls (.long (f i) :: rest))) : W p l e R s m args below meth c H locs cells slots Q (F0 m pc ls (.int (nI i) :: .ref a :: rest)) := by
  refine va_lald (D := K.1) X.1 X.2.1 X.2.2.2.2 hP q0 1 ha rfl (vp_in_nI hi hn) hdg ?_
  rw [nI_clamp (Nat.lt_trans hi hn)]
  exact kk
theorem z_iast (X : zFx K own cc p s m args c) {q0 a n : Nat} {f g : Nat → Int32} {i : Nat} {x : Int32} {w' : va_W} (hP : va_P K.1 zcl w H) (hD : va_D A w) (hS : va_S A H0 H locs) (ha : w[q0]? = some (a, .inl (K.2.1, n, .inl f))) (hi : i < n) (hn : n < 2 ^ 31) (hg : upd f i x = g) (hw : w.set q0 (a, .inl (K.2.1, n, .inl g)) = w') (hdg : decode cc pc = .ok (.iastore, 1))
    (kk : ∀ (H1 : Heap) (locs1 : List Loc), va_P K.1 zcl w' H1 → va_S A H0 H1 locs1 → W p l e R s m args below meth c H1 locs1 cells slots Q (F0 m (pc + 1) ls rest)) : W p l e R s m args below meth c H locs cells slots Q (F0 m pc ls (.int x :: .int (nI i) :: .ref a :: rest)) := by
  refine va_iast (D := K.1) X.1 X.2.1 X.2.2.2.2 hP hD hS q0 0 ha rfl (vp_in_nI hi hn) hdg (fun H1 locs1 h1 _ h3 => ?_)
  rw [nI_clamp (Nat.lt_trans hi hn), hg, hw] at h1
  exact kk H1 locs1 h1 h3
theorem z_last (X : zFx K own cc p s m args c) {q0 a n : Nat} {f : Nat → Int64} {i : Nat} {x : Int64} {w' : va_W} (hP : va_P K.1 zcl w H) (hD : va_D A w) (hS : va_S A H0 H locs) (ha : w[q0]? = some (a, .inl (K.2.2.1, n, .inr (.inl f)))) (hi : i < n) (hn : n < 2 ^ 31) (hw : w.set q0 (a, .inl (K.2.2.1, n, .inr (.inl (vp_updL f i x)))) = w') (hdg : decode cc pc = .ok (.lastore, 1))
    (kk : ∀ (H1 : Heap) (locs1 : List Loc), va_P K.1 zcl w' H1 → va_S A H0 H1 locs1 → W p l e R s m args below meth c H1 locs1 cells slots Q (F0 m (pc + 1) ls rest)) : W p l e R s m args below meth c H locs cells slots Q (F0 m pc ls (.long x :: .int (nI i) :: .ref a :: rest)) := by
  refine va_last (D := K.1) X.1 X.2.1 X.2.2.2.2 hP hD hS q0 1 ha rfl (vp_in_nI hi hn) hdg (fun H1 locs1 h1 _ h3 => ?_)
  rw [nI_clamp (Nat.lt_trans hi hn), hw] at h1
  exact kk H1 locs1 h1 h3
theorem z_cont {T' t st₀ : State} {L : List Loc} {w' : va_W} (hS : va_S A H0 H locs) (h0 : st₀.heap = H) (hL : ∀ q ∈ L, A q.base) (e1 : T'.heap = t.heap) (hF : va_F A st₀ t) (hP : va_P K.1 zcl w' t.heap) : va_P K.1 zcl w' T'.heap ∧ va_S A H0 T'.heap (locs ++ L) := by
  obtain ⟨hz, hk⟩ := hF
  rw [h0] at hz hk
  refine ⟨by rw [e1]; exact hP, Nat.le_trans hS.1 (by rw [e1]; exact hz), fun q h1 h2 => ?_, fun q hq => ?_⟩
  · rw [e1, hk q (Nat.lt_of_lt_of_le h1 hS.1) h2]
    exact hS.2.1 q h1 h2
  · rcases List.mem_append.mp hq with h | h
    · exact hS.2.2 q h
    · exact hL q h
/-- a call of an instance's method by its contract -/
theorem z_callV {y : MethodName} {bytes : ByteArray} {maxL nL n index k : Nat} {ret : Option FieldType} {C : String} {b q0 ci : Nat} {fs : List Value} {qc : vw_C} {As st0 : List Value} {w' : va_W} {o : Option Value} (X : zFx K own cc p s m args c) (hml : c.maxLocals = nL) (hM : zMet l K A y (Cond.code y bytes maxL ret :: zW) k (.ref b :: As) w w' o) (cw : CallW R s args own C index y bytes maxL ret (Cond.code y bytes maxL ret :: zW) (zrm k) 0 0 n)
    (he : w[q0]? = some (b, .inr (ci, fs))) (hc : zcl[ci]? = some qc) (hC : qc.1 = C) (hP : va_P K.1 zcl w H) (hS : va_S A H0 H locs) (hn : As.length = n) (hsize : ls.size = nL) (hstack : st0 = As.reverse ++ .ref b :: rest) (hW : (rest.map fun v => v.category).sum ≤ 8) (hdg : decode cc pc = .ok (.invokevirtual index, 3)) (hf : cells ≤ R.cells ∧ slots ≤ R.slots)
    (kk : ∀ (H1 : Heap) (locs1 : List Loc), va_P K.1 zcl w' H1 → va_S A H0 H1 locs1 → W p l e R s m args below meth c H1 locs1 cells slots Q (F0 m (pc + 3) ls (o.toList ++ rest))) : W p l e R s m args below meth c H locs cells slots Q (F0 m pc ls st0) := by
  intro T hT XS
  subst hC
  obtain ⟨v, st₀, t, T', L, h0, X', hL, e1, e2, ⟨hv, hb, hF⟩, st⟩ := va_runV (cells := cells) (slots := slots) (g := F0 m pc ls st0) (As := As) (rest := rest) ⟨X.1, X.2.1, hml, X.2.2.1, X.2.2.2.1⟩ hM cw ⟨zPre_blind, va_recv X.2.2.2.2 hP hc he, fun U hU hWm => ⟨rfl, by rw [hU]; exact hP, va_K.moved hWm.alike X.2.2.2.2⟩⟩ rfl hn hsize hstack (lv_room hW) hdg hf T hT XS
  cases hv
  obtain ⟨hP1, hS1⟩ := z_cont (K := K) hS h0 hL e1 hF hb
  obtain ⟨t2, a1, b1⟩ := kk T'.heap (locs ++ L) hP1 hS1 T' rfl X'
  exact ⟨t2, st t2 a1, b1⟩
/-- a call of a static method by its contract -/
theorem z_callS {y : MethodName} {bytes : ByteArray} {maxL nL n index k : Nat} {ret : Option FieldType} {As st0 : List Value} {w' : va_W} {o : Option Value} (X : zFx K own cc p s m args c) (hml : c.maxLocals = nL) (hM : zMet l K A y (Cond.code y bytes maxL ret :: zW) k As w w' o) (cw : CallB R s args own index y bytes maxL ret (Cond.code y bytes maxL ret :: zW) (zrm k) 0 0 n ∧ (Cond.static y).before args s = true)
    (hP : va_P K.1 zcl w H) (hS : va_S A H0 H locs) (hn : As.length = n) (hsize : ls.size = nL) (hstack : st0 = As.reverse ++ rest) (hW : (rest.map fun v => v.category).sum ≤ 8) (hdg : decode cc pc = .ok (.invokestatic index, 3)) (hf : cells ≤ R.cells ∧ slots ≤ R.slots)
    (kk : ∀ (H1 : Heap) (locs1 : List Loc), va_P K.1 zcl w' H1 → va_S A H0 H1 locs1 → W p l e R s m args below meth c H1 locs1 cells slots Q (F0 m (pc + 3) ls (o.toList ++ rest))) : W p l e R s m args below meth c H locs cells slots Q (F0 m pc ls st0) := by
  intro T hT XS
  obtain ⟨v, st₀, t, T', L, h0, X', hL, e1, e2, ⟨hv, hb, hF⟩, st⟩ := va_runS (cells := cells) (slots := slots) (g := F0 m pc ls st0) (As := As) (rest := rest) ⟨X.1, X.2.1, hml, X.2.2.1, X.2.2.2.1⟩ hM cw ⟨zPre_blind, fun U hU hWm => ⟨rfl, by rw [hU]; exact hP, va_K.moved hWm.alike X.2.2.2.2⟩⟩ rfl hn hsize hstack (lv_room hW) hdg hf T hT XS
  cases hv
  obtain ⟨hP1, hS1⟩ := z_cont (K := K) hS h0 hL e1 hF hb
  obtain ⟨t2, a1, b1⟩ := kk T'.heap (locs ++ L) hP1 hS1 T' rfl X'
  exact ⟨t2, st t2 a1, b1⟩
end ZF
/-- Nat-valued rows as the machine holds them -/
def upN (f : Nat → Nat) (k x : Nat) : Nat → Nat := fun j => if j = k then x else f j
theorem upN_nI (f : Nat → Nat) (k x : Nat) : upd (fun j => nI (f j)) k (nI x) = fun j => nI (upN f k x j) := by
  funext j
  by_cases h : j = k
  · subst h; simp [upd, upN]
  · simp [upd, upN, h]
section ZF2
variable {p : Program} {l : Launch} {e : Env} {R : Room} {s : State} {m : MethodId} {args : Array Value} {below : List Frame} {meth : Method} {c : Code} {H : Heap} {locs : List Loc} {cells slots : Nat} {Q : State → Prop}
variable {K : zK} {own : String} {cc : ByteArray} {pc : Nat} {ls : Array Slot} {rest : List Value} {A : Nat → Prop} {w : va_W} {H0 : Heap}
variable {y : MethodName} {bytes : ByteArray} {maxL nL n index k : Nat} {ret : Option FieldType} {C : String} {b q0 ci : Nat} {fs : List Value} {qc : vw_C} {As st0 : List Value} {w' : va_W}
theorem z_callVi {r : Int32} (X : zFx K own cc p s m args c) (hml : c.maxLocals = nL) (hM : zMet l K A y (Cond.code y bytes maxL ret :: zW) k (.ref b :: As) w w' (some (.int r))) (cw : CallW R s args own C index y bytes maxL ret (Cond.code y bytes maxL ret :: zW) (zrm k) 0 0 n) (he : w[q0]? = some (b, .inr (ci, fs))) (hc : zcl[ci]? = some qc) (hC : qc.1 = C) (hP : va_P K.1 zcl w H) (hS : va_S A H0 H locs) (hn : As.length = n) (hsize : ls.size = nL) (hstack : st0 = As.reverse ++ .ref b :: rest) (hW : (rest.map fun v => v.category).sum ≤ 8) (hdg : decode cc pc = .ok (.invokevirtual index, 3)) (hf : cells ≤ R.cells ∧ slots ≤ R.slots)
    (kk : ∀ (H1 : Heap) (locs1 : List Loc), va_P K.1 zcl w' H1 → va_S A H0 H1 locs1 → W p l e R s m args below meth c H1 locs1 cells slots Q (F0 m (pc + 3) ls (.int r :: rest))) : W p l e R s m args below meth c H locs cells slots Q (F0 m pc ls st0) := z_callV X hml hM cw he hc hC hP hS hn hsize hstack hW hdg hf kk
theorem z_callVl {r : Int64} (X : zFx K own cc p s m args c) (hml : c.maxLocals = nL) (hM : zMet l K A y (Cond.code y bytes maxL ret :: zW) k (.ref b :: As) w w' (some (.long r))) (cw : CallW R s args own C index y bytes maxL ret (Cond.code y bytes maxL ret :: zW) (zrm k) 0 0 n) (he : w[q0]? = some (b, .inr (ci, fs))) (hc : zcl[ci]? = some qc) (hC : qc.1 = C) (hP : va_P K.1 zcl w H) (hS : va_S A H0 H locs) (hn : As.length = n) (hsize : ls.size = nL) (hstack : st0 = As.reverse ++ .ref b :: rest) (hW : (rest.map fun v => v.category).sum ≤ 8) (hdg : decode cc pc = .ok (.invokevirtual index, 3)) (hf : cells ≤ R.cells ∧ slots ≤ R.slots)
    (kk : ∀ (H1 : Heap) (locs1 : List Loc), va_P K.1 zcl w' H1 → va_S A H0 H1 locs1 → W p l e R s m args below meth c H1 locs1 cells slots Q (F0 m (pc + 3) ls (.long r :: rest))) : W p l e R s m args below meth c H locs cells slots Q (F0 m pc ls st0) := z_callV X hml hM cw he hc hC hP hS hn hsize hstack hW hdg hf kk
theorem z_callVv (X : zFx K own cc p s m args c) (hml : c.maxLocals = nL) (hM : zMet l K A y (Cond.code y bytes maxL ret :: zW) k (.ref b :: As) w w' none) (cw : CallW R s args own C index y bytes maxL ret (Cond.code y bytes maxL ret :: zW) (zrm k) 0 0 n) (he : w[q0]? = some (b, .inr (ci, fs))) (hc : zcl[ci]? = some qc) (hC : qc.1 = C) (hP : va_P K.1 zcl w H) (hS : va_S A H0 H locs) (hn : As.length = n) (hsize : ls.size = nL) (hstack : st0 = As.reverse ++ .ref b :: rest) (hW : (rest.map fun v => v.category).sum ≤ 8) (hdg : decode cc pc = .ok (.invokevirtual index, 3)) (hf : cells ≤ R.cells ∧ slots ≤ R.slots)
    (kk : ∀ (H1 : Heap) (locs1 : List Loc), va_P K.1 zcl w' H1 → va_S A H0 H1 locs1 → W p l e R s m args below meth c H1 locs1 cells slots Q (F0 m (pc + 3) ls rest)) : W p l e R s m args below meth c H locs cells slots Q (F0 m pc ls st0) := z_callV X hml hM cw he hc hC hP hS hn hsize hstack hW hdg hf kk
theorem z_callSi {r : Int32} (X : zFx K own cc p s m args c) (hml : c.maxLocals = nL) (hM : zMet l K A y (Cond.code y bytes maxL ret :: zW) k As w w' (some (.int r))) (cw : CallB R s args own index y bytes maxL ret (Cond.code y bytes maxL ret :: zW) (zrm k) 0 0 n ∧ (Cond.static y).before args s = true) (hP : va_P K.1 zcl w H) (hS : va_S A H0 H locs) (hn : As.length = n) (hsize : ls.size = nL) (hstack : st0 = As.reverse ++ rest) (hW : (rest.map fun v => v.category).sum ≤ 8) (hdg : decode cc pc = .ok (.invokestatic index, 3)) (hf : cells ≤ R.cells ∧ slots ≤ R.slots)
    (kk : ∀ (H1 : Heap) (locs1 : List Loc), va_P K.1 zcl w' H1 → va_S A H0 H1 locs1 → W p l e R s m args below meth c H1 locs1 cells slots Q (F0 m (pc + 3) ls (.int r :: rest))) : W p l e R s m args below meth c H locs cells slots Q (F0 m pc ls st0) := z_callS X hml hM cw hP hS hn hsize hstack hW hdg hf kk
theorem z_callSl {r : Int64} (X : zFx K own cc p s m args c) (hml : c.maxLocals = nL) (hM : zMet l K A y (Cond.code y bytes maxL ret :: zW) k As w w' (some (.long r))) (cw : CallB R s args own index y bytes maxL ret (Cond.code y bytes maxL ret :: zW) (zrm k) 0 0 n ∧ (Cond.static y).before args s = true) (hP : va_P K.1 zcl w H) (hS : va_S A H0 H locs) (hn : As.length = n) (hsize : ls.size = nL) (hstack : st0 = As.reverse ++ rest) (hW : (rest.map fun v => v.category).sum ≤ 8) (hdg : decode cc pc = .ok (.invokestatic index, 3)) (hf : cells ≤ R.cells ∧ slots ≤ R.slots)
    (kk : ∀ (H1 : Heap) (locs1 : List Loc), va_P K.1 zcl w' H1 → va_S A H0 H1 locs1 → W p l e R s m args below meth c H1 locs1 cells slots Q (F0 m (pc + 3) ls (.long r :: rest))) : W p l e R s m args below meth c H locs cells slots Q (F0 m pc ls st0) := z_callS X hml hM cw hP hS hn hsize hstack hW hdg hf kk
end ZF2
theorem z_eq0 {x : Nat} (h : x < 2 ^ 31) : nI x = 0 ↔ x = 0 := by
  rw [← nI_0]; exact nI_eq h (by decide)
theorem z_lt0 {x : Nat} (h : x < 2 ^ 31) : ¬ nI x < 0 := nI_pos h
theorem z_ge0 {x : Nat} (h : x < 2 ^ 31) : 0 ≤ nI x := nI_pos' h
