/-! a throw: what it needs of the state, and how it goes -/
abbrev zXA : String := "java/lang/IllegalArgumentException"
abbrev zXS : String := "java/lang/IllegalStateException"
abbrev zXn : List String := ["java/lang/RuntimeException", "java/lang/Exception"]
abbrev zTA : String := "no such target, aspect or setting"
abbrev zTS : String := "it is not done"
/-- a static field of Throwable: where it lies, and that it holds a reference -/
def zSt (n d : String) (U : State) (H : Heap) : Prop := ∃ (c : ClassId) (k : Class) (i : Nat) (f : Field) (a : Nat) (cell : Cell) (v : Value), U.vm.findClass Bundle.tN = some c ∧ U.fieldFound? Bundle.tN n d = some (c, k, i, f) ∧ f.isStatic = true ∧ k.statics = some a ∧ H[a]? = some cell ∧ cell.vm.isStatics = true ∧ cell.cls = c ∧ f.slot < cell.slots.size ∧ k.staticTypes[f.slot]? = some f.type ∧ cell.slots[f.slot]? = some v ∧ v.isRef = true
theorem zSt.to {n d : String} {u U : State} {H H1 : Heap} (hvm : u.vm.Alike U.vm) (hk : ∀ a : Nat, a < H.size → H1[a]? = H[a]?) (h : zSt n d u H) : zSt n d U H1 := by
  obtain ⟨c, k, i, f, a, cell, v, h1, h2, h3, h4, h5, h6, h7, h8, h9, h10, h11⟩ := h
  obtain ⟨k', hi', he⟩ := State.fieldFound?_setVm hvm h2
  exact ⟨c, k', i, f, a, cell, v, by rw [hvm.findClass]; exact h1, hi', h3, by rw [he]; exact h4, by rw [hk a (Array.getElem?_eq_some_iff.mp h5).1]; exact h5, h6, h7, h8, by rw [he]; exact h9, h10, h11⟩
theorem zSt.lays {n d : String} {args : Array Value} {s : State} (h : zSt n d s s.heap) : (Cond.laysStatic Bundle.tN n d).before args s = true := by
  obtain ⟨c, k, i, f, a, cell, v, h1, h2, h3, h4, h5, h6, h7, h8, h9, -⟩ := h
  show (Cond.laysStatic Bundle.tN n d).holds args s none s [] = true
  exact Cond.laysStatic_of h1 h2 h3 h4 h5 h6 h7 h8 h9
theorem zSt.ref {n d : String} {args : Array Value} {s : State} (h : zSt n d s s.heap) : (Cond.isRef (.static Bundle.tN n d)).before args s = true := by
  obtain ⟨c, k, i, f, a, cell, v, h1, h2, h3, h4, h5, h6, h7, h8, h9, h10, h11⟩ := h
  have he : (Term.static Bundle.tN n d).eval args s none [] s = some v := by simp [Term.eval, State.fieldNamed?, h2, h3, h4, h5, h6, h10]
  simp only [Cond.before, Cond.holds, Cond.value, he]
  cases v <;> simp_all [Value.isRef]
theorem zSt.of {n d : String} {args : Array Value} {s : State} (hl : (Cond.laysStatic Bundle.tN n d).before args s = true) (hr : (Cond.isRef (.static Bundle.tN n d)).before args s = true) : zSt n d s s.heap := by
  obtain ⟨c, k, i, f, a, cell, h1, h2, h3, h4, h5, h6, h7, h8, h9⟩ := Cond.laysStatic_spec hl
  have h10 : cell.slots[f.slot]? = some cell.slots[f.slot] := Array.getElem?_eq_getElem h8
  have he : (Term.static Bundle.tN n d).eval args s none [] s = some cell.slots[f.slot] := by simp [Term.eval, State.fieldNamed?, h2, h3, h4, h5, h6, h10]
  refine ⟨c, k, i, f, a, cell, _, h1, h2, h3, h4, h5, h6, h7, h8, h9, h10, ?_⟩
  simp only [Cond.before, Cond.holds, Cond.value, he] at hr
  revert hr
  cases cell.slots[f.slot] <;> simp [Value.isRef]
def zDe (C : String) : Cond := .declares ⟨C, "<init>", "(Ljava/lang/String;)V"⟩
/-- what a throw needs beyond the tables' good words -/
def zTh (U : State) : Prop := va_Nw (zDe "java/lang/RuntimeException") U ∧ va_Nw (zDe "java/lang/Exception") U ∧ va_Nw (zDe "java/lang/Throwable") U ∧ va_Nw (.castable zXA zXA) U ∧ va_Nw (.castable zXS zXS) U ∧ (∃ a, vk_R zR_W 104 zTA a U) ∧ (∃ a, vk_R zR_W 111 zTS a U) ∧ va_Nc zXS zXA U ∧ zSt "UNASSIGNED_STACK" Bundle.steD U U.heap ∧ zSt "SUPPRESSED_SENTINEL" Bundle.listD U U.heap
theorem zTh.to {s U : State} (hW : s.WarmedH U.vm) (hk : ∀ a : Nat, a < s.heap.size → U.heap[a]? = s.heap[a]?) (h : zTh s) : zTh U := by
  obtain ⟨h1, h2, h3, h4, h5, ⟨a, h6⟩, ⟨b, h7⟩, h8, h9, h10⟩ := h
  exact ⟨va_Nw.warmD hW h1, va_Nw.warmD hW h2, va_Nw.warmD hW h3, va_Nw.warmC hW h4, va_Nw.warmC hW h5, ⟨a, vk_R.warm hW h6⟩, ⟨b, vk_R.warm hW h7⟩, va_Nc.moved hW.alike h8, h9.to hW.alike hk, h10.to hW.alike hk⟩
def zHard (X : String) : List Cond := [.laysStatic Bundle.tN "UNASSIGNED_STACK" Bundle.steD, .laysStatic Bundle.tN "SUPPRESSED_SENTINEL" Bundle.listD, zDe "java/lang/RuntimeException", zDe "java/lang/Exception", zDe "java/lang/Throwable", .castable X X, .isRef (.static Bundle.tN "UNASSIGNED_STACK" Bundle.steD), .isRef (.static Bundle.tN "SUPPRESSED_SENTINEL" Bundle.listD)]
theorem zat_A : ∀ w ∈ Bundle.ownAtoms zR_W 106 zXA zXn, w ∈ zW ∨ w ∈ zHard zXA := by decide +kernel
theorem zat_S : ∀ w ∈ Bundle.ownAtoms zR_W 113 zXS zXn, w ∈ zW ∨ w ∈ zHard zXS := by decide +kernel
theorem zTh.hard {X : String} {args : Array Value} {s : State} (hX : X = zXA ∨ X = zXS) (h : zTh s) : ∀ w ∈ zHard X, w.before args s = true := by
  obtain ⟨h1, h2, h3, h4, h5, -, -, -, h9, h10⟩ := h
  intro w hw
  simp only [zHard, List.mem_cons, List.not_mem_nil, or_false] at hw
  rcases hw with rfl | rfl | rfl | rfl | rfl | rfl | rfl | rfl
  · exact h9.lays
  · exact h10.lays
  · exact va_Nw.use rfl h1
  · exact va_Nw.use rfl h2
  · exact va_Nw.use rfl h3
  · rcases hX with rfl | rfl
    · exact va_Nw.use rfl h4
    · exact va_Nw.use rfl h5
  · exact h9.ref
  · exact h10.ref
/-- rooms: of a method that throws, and of its caller -/
def zrX (n : Nat) : Room := { frames := n, cells := 1, slots := 6, locals := 40 * n }
def zPreT (K : zK) (w : va_W) (av : List Value) : Array Value → State → Prop := fun v U => zPre K w av v U ∧ zTh U
theorem zPreT_blind {K : zK} {w : va_W} {av : List Value} : FrameBlind (zPreT K w av) := by
  intro a U g mk h
  exact ⟨zPre_blind a U g mk h.1, h.2.to (U := U.calling g mk a) (State.WarmedH.refl U) (fun _ _ => rfl)⟩
/-- it threw an X that is new; nothing else has changed -/
def zQT (X : String) : Array Value → State → Outcome → State → Prop := fun _ st o t => ∃ (ea : Addr) (ce : Cell), o = .threw ea ∧ t.heap[ea]? = some ce ∧ ce.vm = .none ∧ st.vm.findClass X = some ce.cls ∧ st.WarmedH t.vm ∧ st.sameButNew ({ t with vm := st.vm } : State) [] 1 6
def zMetT (l : Launch) (K : zK) (y : MethodName) (ws : List Cond) (n : Nat) (av : List Value) (w : va_W) (X : String) : Prop :=
  MetFree l y (headSpec ws (zrX n)) (zPreT K w av) (fun _ _ _ _ _ => True) (zQT X)
theorem zSame {s U : State} {k n : Nat} (h : s.sameButNew ({ U with vm := s.vm } : State) [] k n) : s.heap.size ≤ U.heap.size ∧ ∀ q : Nat, q < s.heap.size → U.heap[q]? = s.heap[q]? := by
  obtain ⟨-, h2, -, -, -, h6⟩ := h
  refine ⟨h2, fun q hq => ?_⟩
  obtain ⟨c9, e1, e2, e3, e4⟩ := h6 q _ (Array.getElem?_eq_getElem hq)
  have hs : c9.slots = (s.heap[q]).slots := Array.ext_getElem? fun i => e4 i (fun hm => nomatch hm)
  have h9 : c9 = s.heap[q] := by
    rw [hs] at e2
    exact e2
  have e5 : U.heap[q]? = some c9 := e1
  rw [e5, h9, Array.getElem?_eq_getElem hq]
section ZT
variable {p : Program} {l : Launch} {e : Env} {R : Room} {s : State} {m : MethodId} {args : Array Value} {below : List Frame} {meth : Method} {c : Code} {H : Heap} {locs : List Loc} {cells slots : Nat} {Q : State → Prop}
variable {K : zK} {own : String} {cc : ByteArray} {pc : Nat} {ls : Array Slot} {rest : List Value} {w : va_W} {H0 : Heap}
theorem z_entryT {y : MethodName} {maxL n : Nat} {ret : Option FieldType} {av : List Value} {X : String} (hy : plainName y.cls = true) (hn : (lg_sl av).length ≤ maxL)
    (body : ∀ (p : Program) (e : Env) (s : State) (m : MethodId) (below : List Frame) (meth : Method) (c : Code) (ls : Array Slot), zFx K y.cls cc p s m av.toArray c → c.maxLocals = maxL → meth.locks = false → c.exceptionTable.isEmpty = true → va_P K.1 zcl w s.heap → zTh s → lv_has ls maxL (lv_args 0 av) →
      W p l e (zrX n) s m av.toArray below meth c s.heap [] 0 0 (fun t => ∃ o, t.status = .running ∧ Ended t below o ∧ zQT X av.toArray s o t) (F0 m 0 ls [])) :
    zMetT l K y (Cond.code y cc maxL ret :: zW) n av w X := by
  refine MetFree.of_bodyS (code := cc) (maxLocals := maxL) (ret := ret) hy ?_ ?_
  · intro args s m h hn
    obtain ⟨meth, c, h1, h2, h3, h4, h5, h6, -, -⟩ := Cond.code_spec hn (atoms_spec (ws := Cond.code y cc maxL ret :: zW) h _ List.mem_cons_self)
    exact ⟨meth, c, h1, h2, h3, h4, h5, h6⟩
  · intro p e s m args below meth c s₁ B hml hv _
    obtain ⟨⟨rfl, hP, hK⟩, hth⟩ := hv
    have hts := atoms_spec (ws := Cond.code y cc maxL ret :: zW) B.pre
    have hown : s.vm.findClass y.cls = some m.cls := findClass_of_methodNamed B.named
    have hl := lv_entry av (n := maxL) hn
    have hh0 : s₁.heap = s.heap := by rw [B.state]; rfl
    obtain ⟨t, a1, o, b1, b2, b3⟩ := body p e s m below meth c _ ⟨B.exec, B.bytes, hown, fun w hw => hts w (List.mem_cons_of_mem _ hw), hK⟩ hml B.notSynchronized (B.noHandlers (hts _ List.mem_cons_self)) hP hth hl s₁ hh0 (Stand.of_body B)
    rw [← lg_entry_eq] at a1
    exact ⟨t, o, a1, b1, b2, b3⟩
/-- throw new X(text) -/
theorem z_throw {n ik is ic sa : Nat} {X tx : String} (F : zFx K zR_W cc p s m args c) (hlt : l.stackTraces = false) (hth : zTh s) (hX : X = zXA ∨ X = zXS) (hfit : Bundle.fit X = true) (hat : ∀ w ∈ Bundle.ownAtoms zR_W ic X zXn, w ∈ zW ∨ w ∈ zHard X) (hk : Cond.classLink zR_W ik X ∈ zW) (hi : Cond.initialized X ∈ zW) (hst : vk_R zR_W is tx sa s) (hlocks : meth.locks = false) (hex : c.exceptionTable.isEmpty = true) (hsize : ls.size = c.maxLocals) (hn : 5 < n) (hS : va_S (fun _ => False) s.heap H locs)
    (d0 : decode cc pc = .ok (.new ik, 3)) (d3 : decode cc (pc + 3) = .ok (.dup, 1)) (d4 : decode cc (pc + 4) = .ok (.ldc is, 2)) (d6 : decode cc (pc + 6) = .ok (.invokespecial ic, 3)) (d9 : decode cc (pc + 9) = .ok (.athrow, 1)) :
    W p l e (zrX n) s m args below meth c H locs 0 0 (fun t => ∃ o, t.status = .running ∧ Ended t below o ∧ zQT X args s o t) (F0 m pc ls []) := by
  have hl0 : locs = [] := List.eq_nil_iff_forall_not_mem.mpr fun q hq => hS.2.2 q hq
  subst hl0
  have hall : ∀ w ∈ Bundle.ownAtoms zR_W ic X zXn, w.before args s = true := fun w hw => (hat w hw).elim (F.2.2.2.1 w) (hth.hard hX w)
  have hins : (Cond.instantiable X 6).before args s = true := hall _ (by simp [Bundle.ownAtoms])
  refine W.newc (n := 6) F.1 F.2.1 F.2.2.1 (F.2.2.2.1 _ hk) hins (F.2.2.2.1 _ hi) (g := F0 m pc ls []) rfl d0 (Nat.le_refl _) (Nat.le_refl _) (fun cC kC h1 h2 h3 h4 => ?_)
  refine lv_dup (pc := pc + 3) F.1 F.2.1 d3 rfl ?_
  refine va_ldcS (pc := pc + 4) F.1 F.2.1 F.2.2.1 hst d4 ?_
  intro T hT XS
  have htr : e.platform.stackTraces = false := (show e.platform.stackTraces = l.stackTraces by rw [XS.admits.platform]).trans hlt
  have hcell : T.heap[H.size]? = some (freshCell cC kC) := by rw [hT]; exact Array.getElem?_push_size
  obtain ⟨U, q1, q2, q3, q4, q5, ce, q6, q7⟩ := XS.ctorThrowS F.1 htr (own := zR_W) (cls := X) (names := zXn) (ic := ic) F.2.2.1 hfit (by decide) hall (fun x hx => nomatch hx) h1 h2 hcell hS.1 (msg := .ref sa) rfl
    (g := F0 m (pc + 6) ls [.ref sa, .ref H.size, .ref H.size]) rfl hsize rfl rfl (rest := []) rfl (by rw [F.2.1]; exact d6) (by rw [F.2.1]; exact d9) (fun x hx => by
      have : c.exceptionTable.toList = [] := by simpa [Array.isEmpty_iff] using hex
      rw [this] at hx
      cases hx) (by simp [zrX]; omega) (by simp [zrX, Value.category, JFrame.monitorRoom]; omega) hlocks
  exact ⟨U, q1, _, q2, q3, H.size, ce, rfl, q6, q7.vm, q7.cls, q4, q5⟩
end ZT
theorem va_P.keep {D : va_G} {cl : List vw_C} {w : va_W} {H H1 : Heap} (hP : va_P D cl w H) (hk : ∀ (i : Nat) (q : Nat × va_E), w[i]? = some q → q.1 < H.size → H1[q.1]? = H[q.1]?) : va_P D cl w H1 :=
  fun i q h => (hP i q h).kept (hk i q h (hP i q h).lt)
section ZC
variable {p : Program} {l : Launch} {e : Env} {R : Room} {s : State} {m : MethodId} {args : Array Value} {below : List Frame} {meth : Method} {c : Code} {H : Heap} {locs : List Loc} {cells slots : Nat} {Q : State → Prop}
variable {K : zK} {own : String} {cc : ByteArray} {pc : Nat} {ls : Array Slot} {rest : List Value} {w : va_W} {H0 : Heap}
theorem z_backT {y : MethodName} {bytes : ByteArray} {maxL n index k : Nat} {ret : Option FieldType} {C E : String} {av : List Value} (hM : zMetT l K y (Cond.code y bytes maxL ret :: zW) k av w E) (cw : CallB R s args own index y bytes maxL ret (Cond.code y bytes maxL ret :: zW) (zrm k) 0 0 n) :
    BackT l R p e below s args y 3 8 (fun A a => A.cells + 1 ≤ R.cells ∧ A.slots + 6 ≤ R.slots ∧ zPreT K w av a A.U) (fun A a x B => ∃ ce, B.U.heap[x]? = some ce ∧ ce.vm = .none ∧ A.U.vm.findClass E = some ce.cls ∧ A.U.heap.size ≤ B.U.heap.size ∧ (∀ q : Nat, q < A.U.heap.size → B.U.heap[q]? = A.U.heap[q]?) ∧ B.locs = A.locs ∧ B.cells = A.cells + 1 ∧ B.slots = A.slots + 6) := by
  obtain ⟨hrc, hrs, hfr, hlo, hws, hcw, hcode, hini, hy, hlen, hl⟩ := cw
  refine BackT.of_free (S := headSpec (Cond.code y bytes maxL ret :: zW) (zrX k)) (bytes := bytes) (maxL := maxL) (ret := ret) (E := fun a st o t L k n => L = [] ∧ k = 1 ∧ n = 6) hM hfr hlo ?_ ?_ (fun _ _ _ _ _ _ _ _ _ => trivial) ?_ ?_
  · intro m meth c A a X hp
    exact ⟨atoms_intro fun w hw => hws w hw _ _ X.warmed, hws _ hcw _ _ X.warmed, word_at X.warmed (Or.inl (by first | rfl | simp [Cond.onTables, Cond.keeps, Cond.steady])) hini, hp.1, hp.2.1⟩
  · intro m meth c A a g mk X hp
    exact zPreT_blind _ _ _ _ hp.2.2
  · intro a st o t h
    obtain ⟨ea, ce, h1, h2, h3, h4, h5, h6⟩ := h
    exact ⟨[], 1, 6, ⟨⟨ea, h1⟩, h5, h6⟩, rfl, rfl, rfl⟩
  · intro m meth c A a g mk v t L k n X hp hq hF hE
    obtain ⟨e1, e2, e3⟩ := hE
    subst e1; subst e2; subst e3
    obtain ⟨ea, ce, h1, h2, h3, h4, h5, h6⟩ := hq
    cases h1
    exact ⟨ce, h2, h3, h4, (zSame h6).1, (zSame h6).2, List.append_nil _, rfl, rfl⟩
/-- a call of a method that throws, caught here -/
theorem z_caught {y : MethodName} {bytes : ByteArray} {maxL nL n index k : Nat} {ret : Option FieldType} {C E : String} {b q0 ci : Nat} {fs : List Value} {qc : vw_C} {As st0 : List Value} (X : zFx K own cc p s m args c) (hml : c.maxLocals = nL) (hM : zMetT l K y (Cond.code y bytes maxL ret :: zW) k (.ref b :: As) w E) (cw : CallW R s args own C index y bytes maxL ret (Cond.code y bytes maxL ret :: zW) (zrm k) 0 0 n)
    (he : w[q0]? = some (b, .inr (ci, fs))) (hc : zcl[ci]? = some qc) (hC : qc.1 = C) (hP : va_P K.1 zcl w H) (hth : zTh s) (hS : va_S (fun _ => False) s.heap H locs) (hn : As.length = n) (hsize : ls.size = nL) (hstack : st0 = As.reverse ++ .ref b :: rest) (hW : (rest.map fun v => v.category).sum ≤ 8) (hdg : decode cc pc = .ok (.invokevirtual index, 3)) (hf : cells + 1 ≤ R.cells ∧ slots + 6 ≤ R.slots)
    (pre : List ExceptionTableEntry) (x : ExceptionTableEntry) (suf : List ExceptionTableEntry) (hsplit : c.exceptionTable.toList = pre ++ x :: suf) (hpass : ∀ z ∈ pre, z.catchType ≠ 0 ∧ ∃ nm, Cond.classLink own z.catchType nm ∈ zW ∧ va_Nc E nm s) (hx : covers x pc = true) (h0 : x.catchType ≠ 0) (hlink : Cond.classLink own x.catchType E ∈ zW) (hcast : va_Nw (.castable E E) s)
    (kk : ∀ (H1 : Heap) (q : Addr), va_P K.1 zcl w H1 → va_S (fun _ => False) s.heap H1 locs → W p l e R s m args below meth c H1 locs (cells + 1) (slots + 6) Q (F0 m x.handlerPc ls [.ref q])) : W p l e R s m args below meth c H locs cells slots Q (F0 m pc ls st0) := by
  intro T hT XS
  subst hC
  obtain ⟨cellB, hcB, hoB, hclB⟩ := va_recv X.2.2.2.2 hP hc he
  have hK := z_backT (p := p) (e := e) (below := below) (C := qc.1) hM cw.1
  obtain ⟨⟨-, -, -, -, -, -, hcode, -, hy, hlen, hl⟩, hin, hse⟩ := cw
  have hpl : e.platform.magicAccessors = ({} : Platform).magicAccessors := by rw [XS.admits.platform]
  obtain ⟨mk, methM, hnamed, hmethM, hstM, habM⟩ := Cond.instanceMethod_spec hin
  obtain ⟨methM', cM, hmethM', -, -, -, -, -, -, hsigM⟩ := Cond.code_spec hnamed hcode
  cases hmethM.symm.trans hmethM'
  obtain ⟨c2, r2, m2, q1, q2, q3, q4, kP, hkP, hkPi⟩ := Cond.selects_spec hse
  cases hclB.symm.trans q1
  cases (State.methodFound?_of_named hnamed hy).symm.trans q2
  cases hnamed.symm.trans q3
  have hselP : selectMethod e.platform s.vm cellB.cls mk = .method mk := by rw [Launch.admits_selectMethod XS.admits]; exact q4
  have hdg' : decode c.code (F0 m pc ls st0).pc = .ok (.invokevirtual index, 3) := by rw [X.2.1]; exact hdg
  obtain ⟨vm₁, X₁, hstep₁⟩ := XS.invokevirtual X.1 X.2.2.1 hl hnamed hmethM hstM hkP hkPi hy (a := b) (cell := cellB) (by rw [hT]; exact hcB)
    (fun z h => by rw [h] at hoB; cases hoB) hselP hmethM habM hkP hkPi (g := F0 m pc ls st0) rfl (argsL := As) (rest := rest) (hn.trans (hlen _ hsigM)) hstack hdg'
  have hkeep : ∀ a : Nat, a < s.heap.size → H[a]? = s.heap[a]? := fun a ha => hS.2.1 a ha id
  obtain ⟨q, ⟨U', l2, c2, s2⟩, X', ⟨ce, g1, g2, g3, g4, g5, g6, g7, g8⟩, hsteps⟩ := hK m meth c ⟨T.setVm vm₁, locs, cells, slots⟩ { F0 m pc ls st0 with stack := rest } (.invokevirtual index) mk (.ref b :: As).toArray X₁ rfl (hsize.trans hml.symm) hdg' (lv_room (ls := ls) (pc := pc) (m := m) hW) (X₁.named hnamed)
    ⟨hf.1, hf.2, ⟨rfl, by rw [show (T.setVm vm₁).heap = H from hT]; exact hP, va_K.moved X₁.warmed.alike X.2.2.2.2⟩, hth.to X₁.warmed (fun a ha => by rw [show (T.setVm vm₁).heap = H from hT]; exact hkeep a ha)⟩
  dsimp only [Pt.U, Pt.locs, Pt.cells, Pt.slots] at X' g1 g2 g3 g4 g5 g6 g7 g8 hsteps
  subst g6; subst g7; subst g8
  rw [show (T.setVm vm₁).heap = H from hT] at g4 g5
  have g3' : s.vm.findClass E = some ce.cls := by rw [← X₁.warmed.alike.findClass]; exact g3
  obtain ⟨c3, c4, hc3, hc4, hasg⟩ := Cond.castable_spec hcast
  cases Option.some.inj (hc3.symm.trans g3')
  obtain ⟨c5, hc5, hcl5⟩ := Cond.classLink_spec X.2.2.1 (X.2.2.2.1 _ hlink) e.platform hpl
  cases Option.some.inj (hc4.symm.trans hc5)
  have hcome : Steps p.tables e below (T.setTop (F0 m pc ls st0)) ((U'.setTop (F0 m pc ls rest)).pushFrame (.throwing q)) := hstep₁ _ fun acts => by rw [doInvoke_state]; exact hsteps
  obtain ⟨vm', X2, st⟩ := X'.thenCaughtThrough q (g := F0 m pc ls rest) rfl hcome g1 (by rw [g2]; rfl) (by obtain ⟨k9, h9, -⟩ := Vm.findClass_spec g3'; exact ⟨k9, h9⟩) pre x suf hsplit
    (fun z hz => by
      obtain ⟨hz0, nm, hl1, n1, n2, n3, n4, n5⟩ := hpass z hz
      obtain ⟨c6, hc6, hcl6⟩ := Cond.classLink_spec X.2.2.1 (X.2.2.2.1 _ hl1) e.platform hpl
      cases Option.some.inj (n3.symm.trans g3')
      cases Option.some.inj (n4.symm.trans hc6)
      exact Or.inr ⟨hz0, _, hcl6, n5⟩) hx (Or.inr ⟨h0, _, hcl5, hasg⟩)
  obtain ⟨t, a1, b1⟩ := kk U'.heap q (hP.keep fun i q9 _ hlt => g5 q9.1 hlt) ⟨Nat.le_trans hS.1 g4, fun a ha _ => by rw [g5 a (Nat.lt_of_lt_of_le ha hS.1)]; exact hkeep a ha, hS.2.2⟩ (U'.setVm vm') rfl X2
  exact ⟨t, st.trans a1, b1⟩
end ZC
