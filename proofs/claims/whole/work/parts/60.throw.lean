/-! a throw: what it needs of the state, and how it goes -/
abbrev zXA : String := "java/lang/IllegalArgumentException"
abbrev zXS : String := "java/lang/IllegalStateException"
abbrev zXn : List String := ["java/lang/RuntimeException", "java/lang/Exception"]
abbrev zTA : String := "no such target, aspect or setting"
abbrev zTS : String := "it is not done"
/-- a static field of Throwable: where it lies, and that it holds a reference -/
def zSt (n d : String) (U : State) (H : Heap) : Prop := ∃ (c : ClassId) (k : Class) (i : Nat) (f : Field) (a : Nat) (cell : Cell) (v : Value), U.vm.findClass Bundle.tN = some c ∧ U.fieldFound? Bundle.tN n d = some (c, k, i, f) ∧ f.isStatic = true ∧ k.statics = some a ∧ H[a]? = some cell ∧ cell.vm.isStatics = true ∧ cell.cls = c ∧ f.slot < cell.slots.size ∧ k.staticTypes[f.slot]? = some f.type ∧ cell.slots[f.slot]? = some v ∧ v.isRef = true
theorem zSt.to {n d : String} {u U : State} {H H1 : Heap} (hvm : u.vm.Alike U.vm) (hk : ∀ a : Nat, a < H.size → H1[a]? = H[a]?) (h : zSt n d u H) : zSt n d U H1 := by
  obtain ⟨c, k, i, f, a, cell, v, h1, h2, h3, h4, h5, h6, h7, h8, h9, h10, h11⟩ := h
  obtain ⟨k', hi', he⟩ := State.fieldFound?_setVm hvm h2
  exact ⟨c, k', i, f, a, cell, v, by rw [hvm.findClass]; exact h1, hi', h3, by rw [he]; exact h4, by rw [hk a (Array.getElem?_eq_some_iff.mp h5).1]; exact h5, h6, h7, h8, by rw [he]; exact h9, h10, h11⟩
theorem zSt.lays {n d : String} {args : Array Value} {s : State} (h : zSt n d s s.heap) : (Cond.laysStatic Bundle.tN n d).before args s = true := by
  obtain ⟨c, k, i, f, a, cell, v, h1, h2, h3, h4, h5, h6, h7, h8, h9, -⟩ := h
  show (Cond.laysStatic Bundle.tN n d).holds args s none s [] = true
  exact Cond.laysStatic_of h1 h2 h3 h4 h5 h6 h7 h8 h9
theorem zSt.ref {n d : String} {args : Array Value} {s : State} (h : zSt n d s s.heap) : (Cond.isRef (.static Bundle.tN n d)).before args s = true := by
  obtain ⟨c, k, i, f, a, cell, v, h1, h2, h3, h4, h5, h6, h7, h8, h9, h10, h11⟩ := h
  have he : (Term.static Bundle.tN n d).eval args s none [] s = some v := by simp [Term.eval, State.fieldNamed?, h2, h3, h4, h5, h6, h10]
  simp only [Cond.before, Cond.holds, Cond.value, he]
  cases v <;> simp_all [Value.isRef]
theorem zSt.of {n d : String} {args : Array Value} {s : State} (hl : (Cond.laysStatic Bundle.tN n d).before args s = true) (hr : (Cond.isRef (.static Bundle.tN n d)).before args s = true) : zSt n d s s.heap := by
  obtain ⟨c, k, i, f, a, cell, h1, h2, h3, h4, h5, h6, h7, h8, h9⟩ := Cond.laysStatic_spec hl
  have h10 : cell.slots[f.slot]? = some cell.slots[f.slot] := Array.getElem?_eq_getElem h8
  have he : (Term.static Bundle.tN n d).eval args s none [] s = some cell.slots[f.slot] := by simp [Term.eval, State.fieldNamed?, h2, h3, h4, h5, h6, h10]
  refine ⟨c, k, i, f, a, cell, _, h1, h2, h3, h4, h5, h6, h7, h8, h9, h10, ?_⟩
  simp only [Cond.before, Cond.holds, Cond.value, he] at hr
  revert hr
  cases cell.slots[f.slot] <;> simp [Value.isRef]
def zDe (C : String) : Cond := .declares ⟨C, "<init>", "(Ljava/lang/String;)V"⟩
/-- what a throw needs beyond the tables' good words -/
def zTh (U : State) : Prop := va_Nw (zDe "java/lang/RuntimeException") U ∧ va_Nw (zDe "java/lang/Exception") U ∧ va_Nw (zDe "java/lang/Throwable") U ∧ va_Nw (.castable zXA zXA) U ∧ va_Nw (.castable zXS zXS) U ∧ (∃ a, vk_R zR_W 104 zTA a U) ∧ (∃ a, vk_R zR_W 111 zTS a U) ∧ va_Nc zXS zXA U ∧ zSt "UNASSIGNED_STACK" Bundle.steD U U.heap ∧ zSt "SUPPRESSED_SENTINEL" Bundle.listD U U.heap
theorem zTh.to {s U : State} (hW : s.WarmedH U.vm) (hk : ∀ a : Nat, a < s.heap.size → U.heap[a]? = s.heap[a]?) (h : zTh s) : zTh U := by
  obtain ⟨h1, h2, h3, h4, h5, ⟨a, h6⟩, ⟨b, h7⟩, h8, h9, h10⟩ := h
  exact ⟨va_Nw.warmD hW h1, va_Nw.warmD hW h2, va_Nw.warmD hW h3, va_Nw.warmC hW h4, va_Nw.warmC hW h5, ⟨a, vk_R.warm hW h6⟩, ⟨b, vk_R.warm hW h7⟩, va_Nc.moved hW.alike h8, h9.to hW.alike hk, h10.to hW.alike hk⟩
def zHard (X : String) : List Cond := [.laysStatic Bundle.tN "UNASSIGNED_STACK" Bundle.steD, .laysStatic Bundle.tN "SUPPRESSED_SENTINEL" Bundle.listD, zDe "java/lang/RuntimeException", zDe "java/lang/Exception", zDe "java/lang/Throwable", .castable X X, .isRef (.static Bundle.tN "UNASSIGNED_STACK" Bundle.steD), .isRef (.static Bundle.tN "SUPPRESSED_SENTINEL" Bundle.listD)]
theorem zat_A : ∀ w ∈ Bundle.ownAtoms zR_W 106 zXA zXn, w ∈ zW ∨ w ∈ zHard zXA := by decide +kernel
theorem zat_S : ∀ w ∈ Bundle.ownAtoms zR_W 113 zXS zXn, w ∈ zW ∨ w ∈ zHard zXS := by decide +kernel
theorem zTh.hard {X : String} {args : Array Value} {s : State} (hX : X = zXA ∨ X = zXS) (h : zTh s) : ∀ w ∈ zHard X, w.before args s = true := by
  obtain ⟨h1, h2, h3, h4, h5, -, -, -, h9, h10⟩ := h
  intro w hw
  simp only [zHard, List.mem_cons, List.not_mem_nil, or_false] at hw
  rcases hw with rfl | rfl | rfl | rfl | rfl | rfl | rfl | rfl
  · exact h9.lays
  · exact h10.lays
  · exact va_Nw.use rfl h1
  · exact va_Nw.use rfl h2
  · exact va_Nw.use rfl h3
  · rcases hX with rfl | rfl
    · exact va_Nw.use rfl h4
    · exact va_Nw.use rfl h5
  · exact h9.ref
  · exact h10.ref
/-- rooms: of a method that throws, and of its caller -/
def zrX (n : Nat) : Room := { frames := n, cells := 1, slots := 6, locals := 40 * n }
def zPreT (K : zK) (w : va_W) (av : List Value) : Array Value → State → Prop := fun v U => zPre K w av v U ∧ zTh U
theorem zPreT_blind {K : zK} {w : va_W} {av : List Value} : FrameBlind (zPreT K w av) := by
  intro a U g mk h
  exact ⟨zPre_blind a U g mk h.1, h.2.to (U := U.calling g mk a) (State.WarmedH.refl U) (fun _ _ => rfl)⟩
/-- it threw an X that is new; nothing else has changed -/
def zQT (X : String) : Array Value → State → Outcome → State → Prop := fun _ st o t => ∃ (ea : Addr) (ce : Cell), o = .threw ea ∧ t.heap[ea]? = some ce ∧ ce.vm = .none ∧ st.vm.findClass X = some ce.cls ∧ st.WarmedH t.vm ∧ st.sameButNew ({ t with vm := st.vm } : State) [] 1 6
def zMetT (l : Launch) (K : zK) (y : MethodName) (ws : List Cond) (n : Nat) (av : List Value) (w : va_W) (X : String) : Prop :=
  MetFree l y (headSpec ws (zrX n)) (zPreT K w av) (fun _ _ _ _ _ => True) (zQT X)
theorem zSame {s U : State} {k n : Nat} (h : s.sameButNew ({ U with vm := s.vm } : State) [] k n) : s.heap.size ≤ U.heap.size ∧ ∀ q : Nat, q < s.heap.size → U.heap[q]? = s.heap[q]? := by
  obtain ⟨-, h2, -, -, -, h6⟩ := h
  refine ⟨h2, fun q hq => ?_⟩
  obtain ⟨c9, e1, e2, e3, e4⟩ := h6 q _ (Array.getElem?_eq_getElem hq)
  have hs : c9.slots = (s.heap[q]).slots := Array.ext_getElem? fun i => e4 i (fun hm => nomatch hm)
  have h9 : c9 = s.heap[q] := by
    rw [hs] at e2
    exact e2
  have e5 : U.heap[q]? = some c9 := e1
  rw [e5, h9, Array.getElem?_eq_getElem hq]
section ZT
variable {p : Program} {l : Launch} {e : Env} {R : Room} {s : State} {m : MethodId} {args : Array Value} {below : List Frame} {meth : Method} {c : Code} {H : Heap} {locs : List Loc} {cells slots : Nat} {Q : State → Prop}
variable {K : zK} {own : String} {cc : ByteArray} {pc : Nat} {ls : Array Slot} {rest : List Value} {w : va_W} {H0 : Heap}
theorem z_entryT {y : MethodName} {maxL n : Nat} {ret : Option FieldType} {av : List Value} {X : String} (hy : plainName y.cls = true) (hn : (lg_sl av).length ≤ maxL)
    (body : ∀ (p : Program) (e : Env) (s : State) (m : MethodId) (below : List Frame) (meth : Method) (c : Code) (ls : Array Slot), zFx K y.cls cc p s m av.toArray c → c.maxLocals = maxL → meth.locks = false → c.exceptionTable.isEmpty = true → va_P K.1 zcl w s.heap → zTh s → lv_has ls maxL (lv_args 0 av) →
      W p l e (zrX n) s m av.toArray below meth c s.heap [] 0 0 (fun t => ∃ o, t.status = .running ∧ Ended t below o ∧ zQT X av.toArray s o t) (F0 m 0 ls [])) :
    zMetT l K y (Cond.code y cc maxL ret :: zW) n av w X := by
  refine MetFree.of_bodyS (code := cc) (maxLocals := maxL) (ret := ret) hy ?_ ?_
  · intro args s m h hn
    obtain ⟨meth, c, h1, h2, h3, h4, h5, h6, -, -⟩ := Cond.code_spec hn (atoms_spec (ws := Cond.code y cc maxL ret :: zW) h _ List.mem_cons_self)
    exact ⟨meth, c, h1, h2, h3, h4, h5, h6⟩
  · intro p e s m args below meth c s₁ B hml hv _
    obtain ⟨⟨rfl, hP, hK⟩, hth⟩ := hv
    have hts := atoms_spec (ws := Cond.code y cc maxL ret :: zW) B.pre
    have hown : s.vm.findClass y.cls = some m.cls := findClass_of_methodNamed B.named
    have hl := lv_entry av (n := maxL) hn
    have hh0 : s₁.heap = s.heap := by rw [B.state]; rfl
    obtain ⟨t, a1, o, b1, b2, b3⟩ := body p e s m below meth c _ ⟨B.exec, B.bytes, hown, fun w hw => hts w (List.mem_cons_of_mem _ hw), hK⟩ hml B.notSynchronized (B.noHandlers (hts _ List.mem_cons_self)) hP hth hl s₁ hh0 (Stand.of_body B)
    rw [← lg_entry_eq] at a1
    exact ⟨t, o, a1, b1, b2, b3⟩
/-- throw new X(text) -/
theorem z_throw {n ik is ic sa : Nat} {X tx : String} (F : zFx K zR_W cc p s m args c) (hlt : l.stackTraces = false) (hth : zTh s) (hX : X = zXA ∨ X = zXS) (hfit : Bundle.fit X = true) (hat : ∀ w ∈ Bundle.ownAtoms zR_W ic X zXn, w ∈ zW ∨ w ∈ zHard X) (hk : Cond.classLink zR_W ik X ∈ zW) (hi : Cond.initialized X ∈ zW) (hst : vk_R zR_W is tx sa s) (hlocks : meth.locks = false) (hex : c.exceptionTable.isEmpty = true) (hsize : ls.size = c.maxLocals) (hn : 5 < n) (hS : va_S (fun _ => False) s.heap H locs)
    (d0 : decode cc pc = .ok (.new ik, 3)) (d3 : decode cc (pc + 3) = .ok (.dup, 1)) (d4 : decode cc (pc + 4) = .ok (.ldc is, 2)) (d6 : decode cc (pc + 6) = .ok (.invokespecial ic, 3)) (d9 : decode cc (pc + 9) = .ok (.athrow, 1)) :
    W p l e (zrX n) s m args below meth c H locs 0 0 (fun t => ∃ o, t.status = .running ∧ Ended t below o ∧ zQT X args s o t) (F0 m pc ls []) := by
  have hl0 : locs = [] := List.eq_nil_iff_forall_not_mem.mpr fun q hq => hS.2.2 q hq
  subst hl0
  have hall : ∀ w ∈ Bundle.ownAtoms zR_W ic X zXn, w.before args s = true := fun w hw => (hat w hw).elim (F.2.2.2.1 w) (hth.hard hX w)
  have hins : (Cond.instantiable X 6).before args s = true := hall _ (by simp [Bundle.ownAtoms])
  refine W.newc (n := 6) F.1 F.2.1 F.2.2.1 (F.2.2.2.1 _ hk) hins (F.2.2.2.1 _ hi) (g := F0 m pc ls []) rfl d0 (Nat.le_refl _) (Nat.le_refl _) (fun cC kC h1 h2 h3 h4 => ?_)
  refine lv_dup (pc := pc + 3) F.1 F.2.1 d3 rfl ?_
  refine va_ldcS (pc := pc + 4) F.1 F.2.1 F.2.2.1 hst d4 ?_
  intro T hT XS
  have htr : e.platform.stackTraces = false := (show e.platform.stackTraces = l.stackTraces by rw [XS.admits.platform]).trans hlt
  have hcell : T.heap[H.size]? = some (freshCell cC kC) := by rw [hT]; exact Array.getElem?_push_size
  obtain ⟨U, q1, q2, q3, q4, q5, ce, q6, q7⟩ := XS.ctorThrowS F.1 htr (own := zR_W) (cls := X) (names := zXn) (ic := ic) F.2.2.1 hfit (by decide) hall (fun x hx => nomatch hx) h1 h2 hcell hS.1 (msg := .ref sa) rfl
    (g := F0 m (pc + 6) ls [.ref sa, .ref H.size, .ref H.size]) rfl hsize rfl rfl (rest := []) rfl (by rw [F.2.1]; exact d6) (by rw [F.2.1]; exact d9) (fun x hx => by
      have : c.exceptionTable.toList = [] := by simpa [Array.isEmpty_iff] using hex
      rw [this] at hx
      cases hx) (by simp [zrX]; omega) (by simp [zrX, Value.category, JFrame.monitorRoom]; omega) hlocks
  exact ⟨U, q1, _, q2, q3, H.size, ce, rfl, q6, q7.vm, q7.cls, q4, q5⟩
end ZT
theorem va_P.keep {D : va_G} {cl : List vw_C} {w : va_W} {H H1 : Heap} (hP : va_P D cl w H) (hk : ∀ (i : Nat) (q : Nat × va_E), w[i]? = some q → q.1 < H.size → H1[q.1]? = H[q.1]?) : va_P D cl w H1 :=
  fun i q h => (hP i q h).kept (hk i q h (hP i q h).lt)
section ZC
variable {p : Program} {l : Launch} {e : Env} {R : Room} {s : State} {m : MethodId} {args : Array Value} {below : List Frame} {meth : Method} {c : Code} {H : Heap} {locs : List Loc} {cells slots : Nat} {Q : State → Prop}
variable {K : zK} {own : String} {cc : ByteArray} {pc : Nat} {ls : Array Slot} {rest : List Value} {w : va_W} {H0 : Heap}
/-- a call of a method by a contract that says it throws: where the machine stands then -/
theorem z_threw {T : State} {y : MethodName} {bytes : ByteArray} {maxL n index k : Nat} {ret : Option FieldType} {E : String} {av : List Value} {g : JFrame} {ig : Instr} {mk : MethodId} (XS : Stand p l e R s m args below meth c T locs cells slots) (hM : zMetT l K y (Cond.code y bytes maxL ret :: zW) k av w E) (cw : CallB R s args own index y bytes maxL ret (Cond.code y bytes maxL ret :: zW) (zrm k) 0 0 n)
    (hg : g.method = m) (hsize : g.locals.size = c.maxLocals) (hdg : decode c.code g.pc = .ok (ig, 3)) (hW : 2 * g.monitorRoom + (g.stack.map fun v => v.category).sum ≤ 8) (hmk : T.methodNamed? y = some mk) (hf : cells + 1 ≤ R.cells ∧ slots + 6 ≤ R.slots) (hpre : zPreT K w av av.toArray T) :
    ∃ (q : Addr) (ce : Cell) (U : State), Stand p l e R s m args below meth c U locs (cells + 1) (slots + 6) ∧ U.heap[q]? = some ce ∧ ce.vm = .none ∧ T.vm.findClass E = some ce.cls ∧ T.heap.size ≤ U.heap.size ∧ (∀ a : Nat, a < T.heap.size → U.heap[a]? = T.heap[a]?) ∧ Steps p.tables e below (doInvoke e (T.setTop g) [] mk av.toArray).1 ((U.setTop g).pushFrame (.throwing q)) := by
  obtain ⟨-, -, hfr, hlo, hws, hcw, -, hini, -⟩ := cw
  have wd : ∀ c0 ∈ (Cond.code y bytes maxL ret :: zW), c0.before av.toArray T = true := fun c0 h0 => hws c0 h0 _ _ XS.warmed
  have wi : (Cond.initialized y.cls).before av.toArray T = true := word_at XS.warmed (Or.inl (by first | rfl | simp [Cond.onTables, Cond.keeps, Cond.steady])) hini
  obtain ⟨my, cy, hmy, hcy, -, hly, -⟩ := Cond.code_spec hmk (wd _ hcw)
  obtain ⟨ky, hky, -⟩ := className_of_methodNamed hmk
  have hat : At T g.method c below := hg ▸ XS.here
  have hroom := XS.room_calling (args' := av.toArray) (g := g) (R' := zrX k) hsize hmy hcy hfr (by rw [hly]; exact Nat.le_trans (Nat.add_le_add_right (Nat.add_le_add_right hW _) _) hlo) hf.1 hf.2
  have happ : (headSpec (Cond.code y bytes maxL ret :: zW) (zrX k)).appliesLoose y e.platform (T.calling g mk av.toArray) = true :=
    Spec.appliesLoose_calling (g := g) hat hdg hmk hky (Cond.initialized_spec (findClass_of_methodNamed hmk) hky wi) hroom (atoms_intro wd)
  have hfrm := State.frames_setTop' g hat.top
  obtain ⟨mid, hmid⟩ := hat.above
  obtain ⟨o, t, hsteps, -, hend, q, ce, rfl, h1, h2, h3, h4, h5⟩ := Steps.callFree hM p XS.admits XS.cas XS.clock (acts := []) (show (T.setTop g).frames = (.java g :: mid) ++ below by rw [hfrm, hmid]; rfl) happ (zPreT_blind _ _ _ _ hpre) trivial
  obtain ⟨k1, k2⟩ := zSame h5
  obtain ⟨f0, hf0⟩ := Option.isSome_iff_exists.mp hat.top
  obtain ⟨fr, hfr0⟩ := State.topJava?_eq_some.mp hf0
  obtain ⟨th, hth, -⟩ := State.frames_cons hfr0
  obtain ⟨e1, e2⟩ := h5
  have hWT : T.WarmedH t.vm := h4
  -- the state behind, seen from the state before: heap, book and tables are new, nothing else
  let U : State := ({ T with heap := t.heap, slotsUsed := t.slotsUsed } : State).setVm t.vm
  have hUf : U.frames = .java f0 :: fr := hfr0
  have htf : t.frames = .throwing q :: .java g :: T.frames.tail := by
    have h9 : t.frames = .throwing q :: (T.setTop g).frames := hend
    rw [h9, hfrm]
  have ht : t = (U.setTop g).pushFrame (.throwing q) := by
    have h9 : t = ({ (T.calling g mk av.toArray).setFrames t.frames with heap := t.heap, slotsUsed := t.slotsUsed } : State).setVm t.vm := by
      have h10 := congrArg (fun z : State => z.setVm t.vm) e1
      exact h10
    refine h9.trans ?_
    rw [htf, State.calling_eq hat.top, State.setFrames_setFrames, State.pushFrame, State.frames_setTop _ hUf, State.setTop_of_frames _ hUf, State.setFrames_setFrames, hfr0]
    rfl
  have hsame : T.sameButNew ({ T with heap := t.heap, slotsUsed := t.slotsUsed } : State) [] 1 6 := by
    refine ⟨?_, e2⟩
    show ({ T with heap := t.heap, slotsUsed := t.slotsUsed } : State) = { T.setFrames T.frames with heap := t.heap, slotsUsed := t.slotsUsed }
    rw [State.setFrames_self hth]
  have hall := XS.same.trans (hsame.setVm s.vm)
  rw [List.append_nil] at hall
  have XU : Stand p l e R s m args below meth c U locs (cells + 1) (slots + 6) :=
    ⟨XS.admits, XS.cas, XS.clock, XS.frames, XS.room, XS.hears, XS.method, XS.code, (XS.here.setHeapUsed t.heap t.slotsUsed).setVm hWT.alike, XS.tail, State.WarmedH.trans XS.warmed hWT, XS.limits, XS.bytes, hall⟩
  exact ⟨q, ce, U, XU, h1, h2, h3, k1, k2, ht ▸ hsteps⟩
/-- how the search through a table goes on from any warmer state: to the handler at h, the tables warmer still -/
def zSearch (e : Env) (s : State) (f : JFrame) (q : Addr) (cell : Cell) (tab : List ExceptionTableEntry) (h : Nat) : Prop :=
  ∀ S : State, s.WarmedH S.vm → S.heap[q]? = some cell → ∃ vm', s.WarmedH vm' ∧ ∀ (Q : Handler → Pre) (E : CtlPost) (d : Bool) (acts : List Action), wp (findHandler.go f q tab) Q E e d acts S ↔ Q (.found h) d acts (S.setVm vm')
theorem z_row {S : State} {f : JFrame} {q : Addr} {x : ExceptionTableEntry} {tab : List ExceptionTableEntry} {ck : ClassId} {cell : Cell} {Q : Handler → Pre} {E : CtlPost} {d : Bool} {acts : List Action} (hx : covers x f.pc = true) (h0 : x.catchType ≠ 0) (hl : S.vm.ClassLinks e.platform f.method.cls x.catchType ck) (hcell : S.heap[q]? = some cell) (hobj : cell.vm = .none) (hk : ∃ z, S.vm.classes[cell.cls]? = some z) (hck : ∃ z, S.vm.classes[ck]? = some z) :
    wp (findHandler.go f q (x :: tab)) Q E e d acts S ↔ if S.vm.assignable cell.cls ck = true then Q (.found x.handlerPc) d acts (S.setVm (S.vm.noted f.method.cls x.catchType (.cls ck))) else wp (findHandler.go f q tab) Q E e d acts (S.setVm (S.vm.noted f.method.cls x.catchType (.cls ck))) := by
  obtain ⟨g1, g2⟩ := (resolveClass_links e.toSetting hl).op (op := VmOp.resolveClass f.method.cls x.catchType) rfl
  have hal : S.vm.Alike (S.vm.noted f.method.cls x.catchType (.cls ck)) := (Vm.Alike.refl S.vm).noted _ _ _
  have hasg := hal.assignable cell.cls ck
  obtain ⟨z1, hz1⟩ := hk
  obtain ⟨z2, hz2⟩ := hck
  obtain ⟨z1', hz1', -⟩ := hal.2.2 _ _ hz1
  obtain ⟨z2', hz2', -⟩ := hal.2.2 _ _ hz2
  simp only [covers] at hx
  cases hfit : S.vm.assignable cell.cls ck <;> rw [hfit] at hasg <;> simp [findHandler.go, hx, h0, g1, g2, hcell, hobj, hz1', hz2', hasg, VmOp.dirties, VmOp.acts]
section ZSe
variable {f : JFrame} {q : Addr} {cell : Cell} {x : ExceptionTableEntry} {tab : List ExceptionTableEntry} {ck : ClassId}
theorem z_linked (hl : s.vm.ClassLinks e.platform f.method.cls x.catchType ck) (hk : ∃ z, s.vm.classes[cell.cls]? = some z) {S : State} (hWm : s.WarmedH S.vm) : S.vm.ClassLinks e.platform f.method.cls x.catchType ck ∧ (∃ z, S.vm.classes[cell.cls]? = some z) ∧ (∃ z, S.vm.classes[ck]? = some z) ∧ s.WarmedH (S.vm.noted f.method.cls x.catchType (.cls ck)) := by
  obtain ⟨dk, _, _, kt, hd, _, _, _, _, hkt, _, hopen⟩ := hl.here
  obtain ⟨z, hz⟩ := hk
  obtain ⟨z', hz', -⟩ := hWm.alike.2.2 _ _ hz
  obtain ⟨kt', hkt', -⟩ := hWm.alike.2.2 _ _ hkt
  exact ⟨hWm.classLinks hl, ⟨z', hz'⟩, ⟨kt', hkt'⟩, hWm.noted hd hopen (State.rightAt_cls hl)⟩
theorem zSearch.hit (hx : covers x f.pc = true) (h0 : x.catchType ≠ 0) (hl : s.vm.ClassLinks e.platform f.method.cls x.catchType ck) (hobj : cell.vm = .none) (hk : ∃ z, s.vm.classes[cell.cls]? = some z) (hfit : s.vm.assignable cell.cls ck = true) : zSearch e s f q cell (x :: tab) x.handlerPc := by
  intro S hWm hcell
  obtain ⟨a1, a2, a3, a4⟩ := z_linked hl hk hWm
  exact ⟨_, a4, fun Q E d acts => by rw [z_row hx h0 a1 hcell hobj a2 a3, if_pos (by rw [hWm.alike.assignable]; exact hfit)]⟩
theorem zSearch.pass {h : Nat} (hx : covers x f.pc = true) (h0 : x.catchType ≠ 0) (hl : s.vm.ClassLinks e.platform f.method.cls x.catchType ck) (hobj : cell.vm = .none) (hk : ∃ z, s.vm.classes[cell.cls]? = some z) (hno : s.vm.assignable cell.cls ck = false) (ih : zSearch e s f q cell tab h) : zSearch e s f q cell (x :: tab) h := by
  intro S hWm hcell
  obtain ⟨a1, a2, a3, a4⟩ := z_linked hl hk hWm
  obtain ⟨vm', b1, b2⟩ := ih (S.setVm (S.vm.noted f.method.cls x.catchType (.cls ck))) a4 hcell
  exact ⟨vm', b1, fun Q E d acts => by rw [z_row hx h0 a1 hcell hobj a2 a3, if_neg (by rw [hWm.alike.assignable, hno]; decide), b2 Q E d acts]; rfl⟩
end ZSe
/-- from the note of a throw over the frame g into the handler at h -/
theorem z_handler {U : State} {g : JFrame} {q : Addr} {cell : Cell} {h : Nat} (XU : Stand p l e R s m args below meth c U locs cells slots) (hg : g.method = m) (hcell : U.heap[q]? = some cell) (hse : zSearch e s g q cell c.exceptionTable.toList h) :
    ∃ vm', Stand p l e R s m args below meth c (U.setVm vm') locs cells slots ∧ ∀ tg, Steps p.tables e below ((U.setVm vm').setTop { g with pc := h, stack := [.ref q] }) tg → Steps p.tables e below ((U.setTop g).pushFrame (.throwing q)) tg := by
  have hat : At U g.method c below := hg ▸ XU.here
  obtain ⟨vm', hW', hwp⟩ := hse ((U.setTop g).pushFrame (.throwing q)) XU.warmed hcell
  refine ⟨vm', XU.noted hW', fun tg hrest => ?_⟩
  have hfind : ∀ (Q : Handler → Pre) (E : CtlPost) (d : Bool) (acts : List Action), wp (findHandler g q) Q E e d acts ((U.setTop g).pushFrame (.throwing q)) ↔ Q (.found h) d acts (((U.setTop g).pushFrame (.throwing q)).setVm vm') := fun Q E d acts => by
    rw [W.findHandler_eq (meth := meth) (code := c) (by rw [hg]; exact XU.method') XU.code]
    exact hwp Q E d acts
  have hst : ∀ r : List Frame, (stepThrowing e ((U.setTop g).pushFrame (.throwing q)) q (.java g :: r)).1 = (((U.setTop g).pushFrame (.throwing q)).setVm vm').setFrames (.java { g with pc := h, stack := [.ref q] } :: r) := fun r => by
    simp only [stepThrowing, searchFrame, vmDo]
    generalize hres : Sem.go _ e false [] _ = res
    obtain ⟨as, rfl, -⟩ := Sem.eq_ok_of hres (a := Handler.found h) (s' := ((U.setTop g).pushFrame (.throwing q)).setVm vm') (acts' := []) (by simp [hfind _ _ _ _])
    rfl
  obtain ⟨hgo, hwi⟩ := hat.throwing q
  refine Steps.head hgo hwi ?_
  rw [stepThread_throwing (frames_entered hat.top _), hst]
  obtain ⟨f0, hf0⟩ := Option.isSome_iff_exists.mp hat.top
  obtain ⟨fr, hfr⟩ := State.topJava?_eq_some.mp hf0
  have hfr' : (U.setVm vm').frames = .java f0 :: fr := hfr
  rw [State.setTop_of_frames _ hfr'] at hrest
  have hsv : ∀ F : List Frame, (U.setFrames F).setVm vm' = (U.setVm vm').setFrames F := fun _ => rfl
  rw [hfr, List.tail_cons, State.pushFrame, State.setTop_of_frames _ hfr, State.setFrames_setFrames, hsv, State.setFrames_setFrames]
  exact hrest
/-- a call of a method that throws, caught here -/
theorem z_caught {y : MethodName} {bytes : ByteArray} {maxL nL n index k h : Nat} {ret : Option FieldType} {C E : String} {b q0 ci : Nat} {fs : List Value} {qc : vw_C} {As st0 : List Value} (X : zFx K own cc p s m args c) (hml : c.maxLocals = nL) (hM : zMetT l K y (Cond.code y bytes maxL ret :: zW) k (.ref b :: As) w E) (cw : CallW R s args own C index y bytes maxL ret (Cond.code y bytes maxL ret :: zW) (zrm k) 0 0 n)
    (he : w[q0]? = some (b, .inr (ci, fs))) (hc : zcl[ci]? = some qc) (hC : qc.1 = C) (hP : va_P K.1 zcl w H) (hth : zTh s) (hS : va_S (fun _ => False) s.heap H locs) (hn : As.length = n) (hsize : ls.size = nL) (hstack : st0 = As.reverse ++ .ref b :: rest) (hW : (rest.map fun v => v.category).sum ≤ 8) (hdg : decode cc pc = .ok (.invokevirtual index, 3)) (hf : cells + 1 ≤ R.cells ∧ slots + 6 ≤ R.slots)
    (hse : e.platform.magicAccessors = ({} : Platform).magicAccessors → ∀ (q : Addr) (ce : Cell), ce.vm = .none → s.vm.findClass E = some ce.cls → zSearch e s (F0 m pc ls rest) q ce c.exceptionTable.toList h)
    (kk : ∀ (H1 : Heap) (q : Addr), va_P K.1 zcl w H1 → va_S (fun _ => False) s.heap H1 locs → W p l e R s m args below meth c H1 locs (cells + 1) (slots + 6) Q (F0 m h ls [.ref q])) : W p l e R s m args below meth c H locs cells slots Q (F0 m pc ls st0) := by
  intro T hT XS
  subst hC
  obtain ⟨cellB, hcB, hoB, hclB⟩ := va_recv X.2.2.2.2 hP hc he
  have cb := cw.1
  obtain ⟨⟨-, -, -, -, -, -, hcode, -, hy, hlen, hl⟩, hin, hsel⟩ := cw
  have hpl : e.platform.magicAccessors = ({} : Platform).magicAccessors := by rw [XS.admits.platform]
  obtain ⟨mk, methM, hnamed, hmethM, hstM, habM⟩ := Cond.instanceMethod_spec hin
  obtain ⟨methM', cM, hmethM', -, -, -, -, -, -, hsigM⟩ := Cond.code_spec hnamed hcode
  cases hmethM.symm.trans hmethM'
  obtain ⟨c2, r2, m2, q1, q2, q3, q4, kP, hkP, hkPi⟩ := Cond.selects_spec hsel
  cases hclB.symm.trans q1
  cases (State.methodFound?_of_named hnamed hy).symm.trans q2
  cases hnamed.symm.trans q3
  have hselP : selectMethod e.platform s.vm cellB.cls mk = .method mk := by rw [Launch.admits_selectMethod XS.admits]; exact q4
  have hdg' : decode c.code (F0 m pc ls st0).pc = .ok (.invokevirtual index, 3) := by rw [X.2.1]; exact hdg
  obtain ⟨vm₁, X₁, hstep₁⟩ := XS.invokevirtual X.1 X.2.2.1 hl hnamed hmethM hstM hkP hkPi hy (a := b) (cell := cellB) (by rw [hT]; exact hcB)
    (fun z h => by rw [h] at hoB; cases hoB) hselP hmethM habM hkP hkPi (g := F0 m pc ls st0) rfl (argsL := As) (rest := rest) (hn.trans (hlen _ hsigM)) hstack hdg'
  have hkeep : ∀ a : Nat, a < s.heap.size → H[a]? = s.heap[a]? := fun a ha => hS.2.1 a ha id
  have hTH : (T.setVm vm₁).heap = H := hT
  obtain ⟨q, ce, U, XU, g1, g2, g3, g4, g5, hsteps⟩ := z_threw (g := F0 m pc ls rest) X₁ hM cb rfl (hsize.trans hml.symm) hdg' (lv_room (ls := ls) (pc := pc) (m := m) hW) (X₁.named hnamed) hf
    ⟨⟨rfl, by rw [hTH]; exact hP, va_K.moved X₁.warmed.alike X.2.2.2.2⟩, hth.to X₁.warmed (fun a ha => by rw [hTH]; exact hkeep a ha)⟩
  rw [hTH] at g4 g5
  have g3' : s.vm.findClass E = some ce.cls := by rw [← X₁.warmed.alike.findClass]; exact g3
  obtain ⟨vm', XV, stV⟩ := z_handler (g := F0 m pc ls rest) XU rfl g1 (hse hpl q ce g2 g3')
  obtain ⟨t, a1, b1⟩ := kk U.heap q (hP.keep fun i q9 _ hlt => g5 q9.1 hlt) ⟨Nat.le_trans hS.1 g4, fun a ha _ => by rw [g5 a (Nat.lt_of_lt_of_le ha hS.1)]; exact hkeep a ha, hS.2.2⟩ (U.setVm vm') rfl XV
  exact ⟨t, hstep₁ _ fun acts => by rw [doInvoke_state]; exact hsteps.trans (stV t a1), b1⟩
/-- the catching class out of the words -/
theorem z_links (X : zFx K own cc p s m args c) (hpl : e.platform.magicAccessors = ({} : Platform).magicAccessors) {i : Nat} {nm : String} (hw : Cond.classLink own i nm ∈ zW) : ∃ ck, s.vm.findClass nm = some ck ∧ s.vm.ClassLinks e.platform m.cls i ck := Cond.classLink_spec X.2.2.1 (X.2.2.2.1 _ hw) e.platform hpl
theorem z_cls {E : String} {ce : Cell} (h : s.vm.findClass E = some ce.cls) : ∃ z, s.vm.classes[ce.cls]? = some z := Vm.classAt_of_findClass h
theorem z_self {E : String} {ce : Cell} {ck : ClassId} (h : s.vm.findClass E = some ce.cls) (hck : s.vm.findClass E = some ck) (hcast : va_Nw (.castable E E) s) : s.vm.assignable ce.cls ck = true := by
  obtain ⟨c3, c4, hc3, hc4, hasg⟩ := Cond.castable_spec hcast
  cases Option.some.inj (hc3.symm.trans h)
  cases Option.some.inj (hc4.symm.trans hck)
  exact hasg
theorem z_other {E E' : String} {ce : Cell} {ck : ClassId} (h : s.vm.findClass E = some ce.cls) (hck : s.vm.findClass E' = some ck) (hno : va_Nc E E' s) : s.vm.assignable ce.cls ck = false := by
  obtain ⟨n2, n3, n4, n5, n6⟩ := hno
  cases Option.some.inj (n4.symm.trans h)
  cases Option.some.inj (n5.symm.trans hck)
  exact n6
end ZC
