/-! calls in a wider world, and the law's own result -/
theorem va_P.left {D : va_G} {cl : List vw_C} {w w2 : va_W} {H : Heap} (hP : va_P D cl (w ++ w2) H) : va_P D cl w H :=
  fun i q h => hP i q (by rw [List.getElem?_append_left (List.getElem?_eq_some_iff.mp h).1]; exact h)
theorem va_P.right {D : va_G} {cl : List vw_C} {w w2 : va_W} {H : Heap} (hP : va_P D cl (w ++ w2) H) : va_P D cl w2 H :=
  fun i q h => hP (w.length + i) q (by rw [List.getElem?_append_right (by omega), Nat.add_sub_cancel_left]; exact h)
section ZW
variable {p : Program} {l : Launch} {e : Env} {R : Room} {s : State} {m : MethodId} {args : Array Value} {below : List Frame} {meth : Method} {c : Code} {H : Heap} {locs : List Loc} {cells slots : Nat} {Q : State → Prop}
variable {K : zK} {own : String} {cc : ByteArray} {pc : Nat} {ls : Array Slot} {rest : List Value} {A A1 : Nat → Prop} {w : va_W} {H0 : Heap}
theorem z_cont' {T' t st₀ : State} {L : List Loc} (hS : va_S A H0 H locs) (hA : ∀ q, A1 q → A q) (h0 : st₀.heap = H) (hL : ∀ q ∈ L, A1 q.base) (e1 : T'.heap = t.heap) (hF : va_F A1 st₀ t) : H.size ≤ T'.heap.size ∧ (∀ q : Nat, q < H.size → ¬ A1 q → T'.heap[q]? = H[q]?) ∧ va_S A H0 T'.heap (locs ++ L) := by
  obtain ⟨hz, hk⟩ := hF
  rw [h0] at hz hk
  refine ⟨by rw [e1]; exact hz, fun q h1 h2 => by rw [e1]; exact hk q h1 h2, Nat.le_trans hS.1 (by rw [e1]; exact hz), fun q h1 h2 => ?_, fun q hq => ?_⟩
  · rw [e1, hk q (Nat.lt_of_lt_of_le h1 hS.1) (fun z => h2 (hA q z))]
    exact hS.2.1 q h1 h2
  · rcases List.mem_append.mp hq with h | h
    · exact hS.2.2 q h
    · exact hA _ (hL q h)
/-- a call of an instance's method whose world is a part of what is known here -/
theorem z_callP {y : MethodName} {bytes : ByteArray} {maxL nL n index k : Nat} {ret : Option FieldType} {C : String} {b q0 ci : Nat} {fs : List Value} {qc : vw_C} {As st0 : List Value} {w' : va_W} {o : Option Value} (X : zFx K own cc p s m args c) (hml : c.maxLocals = nL) (hM : zMet l K A1 y (Cond.code y bytes maxL ret :: zW) k (.ref b :: As) w w' o) (cw : CallW R s args own C index y bytes maxL ret (Cond.code y bytes maxL ret :: zW) (zrm k) 0 0 n)
    (he : w[q0]? = some (b, .inr (ci, fs))) (hc : zcl[ci]? = some qc) (hC : qc.1 = C) (hP : va_P K.1 zcl w H) (hA : ∀ q, A1 q → A q) (hS : va_S A H0 H locs) (hn : As.length = n) (hsize : ls.size = nL) (hstack : st0 = As.reverse ++ .ref b :: rest) (hW : (rest.map fun v => v.category).sum ≤ 8) (hdg : decode cc pc = .ok (.invokevirtual index, 3)) (hf : cells ≤ R.cells ∧ slots ≤ R.slots)
    (kk : ∀ (H1 : Heap) (locs1 : List Loc), va_P K.1 zcl w' H1 → H.size ≤ H1.size → (∀ q : Nat, q < H.size → ¬ A1 q → H1[q]? = H[q]?) → va_S A H0 H1 locs1 → W p l e R s m args below meth c H1 locs1 cells slots Q (F0 m (pc + 3) ls (o.toList ++ rest))) : W p l e R s m args below meth c H locs cells slots Q (F0 m pc ls st0) := by
  intro T hT XS
  subst hC
  obtain ⟨v, st₀, t, T', L, h0, X', hL, e1, e2, ⟨hv, hb, hF⟩, st⟩ := va_runV (cells := cells) (slots := slots) (g := F0 m pc ls st0) (As := As) (rest := rest) ⟨X.1, X.2.1, hml, X.2.2.1, X.2.2.2.1⟩ hM cw ⟨zPre_blind, va_recv X.2.2.2.2 hP hc he, fun U hU hWm => ⟨rfl, by rw [hU]; exact hP, va_K.moved hWm.alike X.2.2.2.2⟩⟩ rfl hn hsize hstack (lv_room hW) hdg hf T hT XS
  cases hv
  obtain ⟨k1, k2, k3⟩ := z_cont' hS hA h0 hL e1 hF
  obtain ⟨t2, a1, b1⟩ := kk T'.heap (locs ++ L) (by rw [e1]; exact hb) k1 k2 k3 T' rfl X'
  exact ⟨t2, st t2 a1, b1⟩
/-- a call of a static method that has an exception table -/
theorem z_callSW {y : MethodName} {bytes : ByteArray} {maxL nL n index mc ms : Nat} {ret : Option FieldType} {hh : List (Nat × Nat × Nat × Nat)} {rm : Room} {Pc : Array Value → State → Prop} {As st0 : List Value} {w' : va_W} {r : Int32} (X : zFx K own cc p s m args c) (hml : c.maxLocals = nL) (hM : Met l y (Cond.codeWith y bytes maxL ret hh :: zW) rm Pc (zPost K A1 w' (some (.int r))) mc ms A1) (hblind : FrameBlind Pc) (hrc : rm.cells = mc) (hrs : rm.slots = ms) (hfr : rm.frames + 1 ≤ R.frames) (hlo : 8 + (maxL + 11) + rm.locals ≤ R.locals)
    (wc : Cond.codeWith y bytes maxL ret hh ∈ zW) (wl : Cond.methodLink own index y ∈ zW) (wst : Cond.static y ∈ zW) (wi : Cond.initialized y.cls ∈ zW) (hy : y.cls ≠ "java/lang/invoke/MethodHandle" ∧ y.cls ≠ "java/lang/invoke/VarHandle") (hd : (parseMethodDescriptor y.desc).map (fun d => d.parameters.length) = some n)
    (hPc : ∀ U : State, U.heap = H → s.WarmedH U.vm → Pc As.toArray U) (hA : ∀ q, A1 q → A q) (hS : va_S A H0 H locs) (hn : As.length = n) (hsize : ls.size = nL) (hstack : st0 = As.reverse ++ rest) (hW : (rest.map fun v => v.category).sum ≤ 8) (hdg : decode cc pc = .ok (.invokestatic index, 3)) (hf : cells + mc ≤ R.cells ∧ slots + ms ≤ R.slots)
    (kk : ∀ (H1 : Heap) (locs1 : List Loc), va_P K.1 zcl w' H1 → H.size ≤ H1.size → (∀ q : Nat, q < H.size → ¬ A1 q → H1[q]? = H[q]?) → va_S A H0 H1 locs1 → W p l e R s m args below meth c H1 locs1 (cells + mc) (slots + ms) Q (F0 m (pc + 3) ls (.int r :: rest))) : W p l e R s m args below meth c H locs cells slots Q (F0 m pc ls st0) := by
  intro T hT XS
  have hK : Back l R p e below s args y 3 8 (PreOf R mc ms Pc) (PostOf (zPost K A1 w' (some (.int r))) mc ms A1) :=
    va_backW (bytes := bytes) (maxL := maxL) (ret := ret) (hh := hh) hM hblind hrc hrs hfr hlo (pay_in X.2.2.2.1 (z_goodC wc)) List.mem_cons_self (fun a' U hWm => word_at hWm (z_good wi).2 (X.2.2.2.1 _ wi))
  obtain ⟨mk, methM, cM, hnamed, hmethM, -, -, -, -, -, -, hsigM⟩ := Cond.codeWith_spec (X.2.2.2.1 _ wc)
  have hstatic : methM.isStatic = true := Cond.static_spec hnamed hmethM (X.2.2.2.1 _ wst)
  obtain ⟨kP, hkP, -⟩ := className_of_methodNamed hnamed
  have hinitP : kP.init = .initialized := Cond.initialized_spec (findClass_of_methodNamed hnamed) hkP (X.2.2.2.1 _ wi)
  have hdg' : decode c.code (F0 m pc ls st0).pc = .ok (.invokestatic index, 3) := by rw [X.2.1]; exact hdg
  have hlen : As.length = methM.sig.parameters.length := by
    rw [hsigM] at hd
    exact hn.trans (Option.some.inj hd).symm
  obtain ⟨vm₁, X₁, hstep₁⟩ := XS.invokestatic X.1 X.2.2.1 (X.2.2.2.1 _ wl) hnamed hmethM hstatic hkP hinitP hy (g := F0 m pc ls st0) rfl (argsL := As) (rest := rest) hlen hstack hdg'
  obtain ⟨v, ⟨U', l2, c2, s2⟩, X', ⟨g', mk', t, L, e1, e2, ⟨hv, hb, hF⟩, h1, hL, h2, h3⟩, hsteps⟩ := hK m meth c ⟨T.setVm vm₁, locs, cells, slots⟩ { F0 m pc ls st0 with stack := rest } (.invokestatic index) mk As.toArray X₁ rfl (hsize.trans hml.symm) hdg' (lv_room (ls := ls) (pc := pc) (m := m) hW) (X₁.named hnamed) ⟨hf.1, hf.2, hPc (T.setVm vm₁) hT X₁.warmed⟩
  dsimp only [Pt.U, Pt.locs, Pt.cells, Pt.slots] at X' e1 e2 h1 h2 h3 hsteps
  subst h1; subst h2; subst h3
  cases hv
  obtain ⟨k1, k2, k3⟩ := z_cont' (T' := U') hS hA (show ((T.setVm vm₁).calling g' mk' As.toArray).heap = H from hT) hL e1 hF
  obtain ⟨t2, a1, b1⟩ := kk U'.heap (locs ++ L) (by rw [e1]; exact hb) k1 k2 k3 U' rfl X'
  exact ⟨t2, hstep₁ _ fun acts => by rw [doInvoke_state]; exact hsteps.trans a1, b1⟩
end ZW
abbrev zhL : List (Nat × Nat × Nat × Nat) := [(0, 11, 14, 13), (0, 11, 18, 15)]
abbrev zws_L_result : List Cond := Cond.codeWith zy_L_result zb_L_result 6 (some .int) zhL :: zW
theorem zw_Lr : Cond.codeWith zy_L_result zb_L_result 6 (some .int) zhL ∈ zW := zin 428 (by decide +kernel) rfl
theorem z_tab {l : List ExceptionTableEntry} (h : l.map (fun h => (h.startPc, h.endPc, h.handlerPc, h.catchType)) = zhL) : l = [⟨0, 11, 14, 13⟩, ⟨0, 11, 18, 15⟩] := by
  match l, h with
  | [⟨a, b, c, d⟩, ⟨a', b', c', d'⟩], h =>
    simp only [List.map_cons, List.map_nil, List.cons.injEq, Prod.mk.injEq] at h
    obtain ⟨⟨rfl, rfl, rfl, rfl⟩, ⟨rfl, rfl, rfl, rfl⟩, -⟩ := h
    rfl
theorem z_Do (o : Nat) {x : va_E} : va_D (fun q => q = o) [(o, x)] := by
  constructor
  · intro i j p q hp hq _
    have h1 := (List.getElem?_eq_some_iff.mp hp).1
    have h2 := (List.getElem?_eq_some_iff.mp hq).1
    simp at h1 h2
    omega
  · intro k q hk
    have h1 := (List.getElem?_eq_some_iff.mp hk).1
    simp at h1
    subst h1
    cases hk
    rfl
section ZL
variable {l : Launch} {K : zK} {w : va_W}
theorem z_entryL {n mc ms : Nat} {av : List Value} {Pc : Array Value → State → Prop} {Qc : Array Value → State → Outcome → State → Prop} {rm : Room} {A : Nat → Prop} (hn : (lg_sl av).length ≤ 6)
    (hPc : ∀ (a : Array Value) (s : State), Pc a s → a = av.toArray ∧ va_K K.1 zcl (zty K) s)
    (body : ∀ (p : Program) (e : Env) (s : State) (m : MethodId) (below : List Frame) (meth : Method) (c : Code) (ls : Array Slot), zFx K zR_L zb_L_result p s m av.toArray c → meth.sig.returnType = some .int → c.maxLocals = 6 → meth.locks = false → c.exceptionTable.toList = [⟨0, 11, 14, 13⟩, ⟨0, 11, 18, 15⟩] → Pc av.toArray s → lv_has ls 6 (lv_args 0 av) →
      W p l e rm s m av.toArray below meth c s.heap [] 0 0 (MQ below Qc av.toArray s mc ms A) (F0 m 0 ls [])) :
    Met l zy_L_result zws_L_result rm Pc Qc mc ms A := by
  refine va_MetW (cc := zb_L_result) (maxL := 6) (ret := some .int) (hh := zhL) (by decide) rfl ?_
  intro p e s m args below meth c s₁ B hml hv
  obtain ⟨rfl, hK⟩ := hPc _ _ hv
  have hts := atoms_spec (ws := zws_L_result) B.pre
  have hown : s.vm.findClass zR_L = some m.cls := findClass_of_methodNamed B.named
  have hl := lv_entry av (n := 6) hn
  have htab : c.exceptionTable.toList = [⟨0, 11, 14, 13⟩, ⟨0, 11, 18, 15⟩] := by
    obtain ⟨m', meth', c', hn', hm', hc', -, -, ht, -⟩ := Cond.codeWith_spec (hts _ List.mem_cons_self)
    cases Option.some.inj (B.named.symm.trans hn')
    cases Option.some.inj (B.method.symm.trans hm')
    cases Option.some.inj ((Stand.of_body B).code.symm.trans hc')
    exact z_tab ht
  rw [lg_entry_eq]
  exact body p e s m below meth c _ ⟨B.exec, B.bytes, hown, fun w hw => hts w (List.mem_cons_of_mem _ hw), hK⟩ B.returns hml B.notSynchronized htab hv hl
set_option maxHeartbeats 4000000 in
set_option maxRecDepth 100000 in
/-- result throws for want of what was named -/
theorem t_L_result_1 {G : Nat → Nat} {σ : cS} {x y z : Int32} {o : Nat} (hM : zMetT l K zy_W_result zws_W_result 6 [.ref (G 0), .int x, .int y, .int z] (cW K G σ) zXA) : Met l zy_L_result zws_L_result (zrX 7) (zPreT K (cW K G σ) [.ref (G 0), .int x, .int y, .int z, .ref o]) (zPost K (fun _ => False) (cW K G σ) (some (.int (nI 1)))) 1 6 (fun _ => False) := by
  refine z_entryL (n := 7) (K := K) (Nat.le_of_ble_eq_true rfl) (fun a s h => ⟨h.1.1, h.1.2.2⟩) ?_
  intro p e s m below meth c ls X hr hml hlocks htab hpre hl
  obtain ⟨⟨-, hP, -⟩, hth⟩ := hpre
  have hS : va_S (fun _ => False) s.heap s.heap [] := va_S.rf
  have hl : lv_has ls 6 [(0, .ref (G 0)), (1, .int x), (2, .int y), (3, .int z), (4, .ref o)] := hl
  refine lv_aload X.1 X.2.1 zd_L_result_0 (lv_at hl 4 rfl) ?_
  refine lv_iconst (v := nI 0) X.1 X.2.1 zd_L_result_2 (by decide) ?_
  refine lv_aload_n X.1 X.2.1 zd_L_result_3 rfl (lv_at hl 0 rfl) ?_
  refine lv_iload_n X.1 X.2.1 zd_L_result_4 rfl (lv_at hl 1 rfl) ?_
  refine lv_iload_n X.1 X.2.1 zd_L_result_5 rfl (lv_at hl 2 rfl) ?_
  refine lv_iload_n X.1 X.2.1 zd_L_result_6 rfl (lv_at hl 3 rfl) ?_
  refine z_caught (As := [.int x, .int y, .int z]) (rest := [.int (nI 0), .ref o]) (q0 := 0) (ci := 3) X hml hM (zk_L_7 X.2.2.2.1 ⟨by decide, by decide⟩) rfl rfl rfl hP hth hS rfl hl.1 rfl (Nat.le_of_ble_eq_true rfl) zd_L_result_7 ⟨by decide, by decide⟩ (h := 14) (fun hpl q ce hce hcl => by
      obtain ⟨ck, hck, hlk⟩ := z_links X hpl (i := 13) (nm := zXA) (zin 429 (by decide +kernel) rfl)
      rw [htab]
      exact zSearch.hit (x := ⟨0, 11, 14, 13⟩) rfl (by decide) hlk hce (z_cls hcl) (z_self hcl hck hth.2.2.2.1)) (fun H q hP hS => ?_)
  refine lv_astore (lv' := [(5, .ref q), (0, .ref (G 0)), (1, .int x), (2, .int y), (3, .int z), (4, .ref o)]) X.1 X.2.1 zd_L_result_14 hl (by decide) rfl (fun ls hl => ?_)
  refine lv_iconst (v := nI 1) X.1 X.2.1 zd_L_result_16 (by decide) ?_
  exact W.iret X.1 X.2.1 hr (fun t ht hW => ⟨rfl, by rw [ht]; exact hP, hS.F ht⟩) hS.2.2 zd_L_result_17
set_option maxHeartbeats 4000000 in
set_option maxRecDepth 100000 in
/-- result throws for it isn't done -/
theorem t_L_result_2 {G : Nat → Nat} {σ : cS} {x y z : Int32} {o : Nat} (hM : zMetT l K zy_W_result zws_W_result 6 [.ref (G 0), .int x, .int y, .int z] (cW K G σ) zXS) : Met l zy_L_result zws_L_result (zrX 7) (zPreT K (cW K G σ) [.ref (G 0), .int x, .int y, .int z, .ref o]) (zPost K (fun _ => False) (cW K G σ) (some (.int (nI 2)))) 1 6 (fun _ => False) := by
  refine z_entryL (n := 7) (K := K) (Nat.le_of_ble_eq_true rfl) (fun a s h => ⟨h.1.1, h.1.2.2⟩) ?_
  intro p e s m below meth c ls X hr hml hlocks htab hpre hl
  obtain ⟨⟨-, hP, -⟩, hth⟩ := hpre
  have hS : va_S (fun _ => False) s.heap s.heap [] := va_S.rf
  have hl : lv_has ls 6 [(0, .ref (G 0)), (1, .int x), (2, .int y), (3, .int z), (4, .ref o)] := hl
  refine lv_aload X.1 X.2.1 zd_L_result_0 (lv_at hl 4 rfl) ?_
  refine lv_iconst (v := nI 0) X.1 X.2.1 zd_L_result_2 (by decide) ?_
  refine lv_aload_n X.1 X.2.1 zd_L_result_3 rfl (lv_at hl 0 rfl) ?_
  refine lv_iload_n X.1 X.2.1 zd_L_result_4 rfl (lv_at hl 1 rfl) ?_
  refine lv_iload_n X.1 X.2.1 zd_L_result_5 rfl (lv_at hl 2 rfl) ?_
  refine lv_iload_n X.1 X.2.1 zd_L_result_6 rfl (lv_at hl 3 rfl) ?_
  refine z_caught (As := [.int x, .int y, .int z]) (rest := [.int (nI 0), .ref o]) (q0 := 0) (ci := 3) X hml hM (zk_L_7 X.2.2.2.1 ⟨by decide, by decide⟩) rfl rfl rfl hP hth hS rfl hl.1 rfl (Nat.le_of_ble_eq_true rfl) zd_L_result_7 ⟨by decide, by decide⟩ (h := 18) (fun hpl q ce hce hcl => by
      obtain ⟨ck, hck, hlk⟩ := z_links X hpl (i := 13) (nm := zXA) (zin 429 (by decide +kernel) rfl)
      obtain ⟨ck2, hck2, hlk2⟩ := z_links X hpl (i := 15) (nm := zXS) (zin 430 (by decide +kernel) rfl)
      rw [htab]
      exact zSearch.pass (x := ⟨0, 11, 14, 13⟩) rfl (by decide) hlk hce (z_cls hcl) (z_other hcl hck hth.2.2.2.2.2.2.2.1) (zSearch.hit (x := ⟨0, 11, 18, 15⟩) rfl (by decide) hlk2 hce (z_cls hcl) (z_self hcl hck2 hth.2.2.2.2.1))) (fun H q hP hS => ?_)
  refine lv_astore (lv' := [(5, .ref q), (0, .ref (G 0)), (1, .int x), (2, .int y), (3, .int z), (4, .ref o)]) X.1 X.2.1 zd_L_result_18 hl (by decide) rfl (fun ls hl => ?_)
  refine lv_iconst (v := nI 2) X.1 X.2.1 zd_L_result_20 (by decide) ?_
  exact W.iret X.1 X.2.1 hr (fun t ht hW => ⟨rfl, by rw [ht]; exact hP, hS.F ht⟩) hS.2.2 zd_L_result_21
set_option maxHeartbeats 4000000 in
set_option maxRecDepth 100000 in
/-- result answers -/
theorem t_L_result_0 {G : Nat → Nat} {σ : cS} {x y z : Int32} {r : Int64} {o k : Nat} {f : Nat → Int64} (hk : k ≤ 6) (hM : zMet l K (fun _ => False) zy_W_result zws_W_result k [.ref (G 0), .int x, .int y, .int z] (cW K G σ) (cW K G σ) (some (.long r))) : Met l zy_L_result zws_L_result (zrm 7) (zPre K (cW K G σ ++ [(o, .inl (K.2.2.1, 1, .inr (.inl f)))]) [.ref (G 0), .int x, .int y, .int z, .ref o]) (zPost K (fun q => q = o) [(o, .inl (K.2.2.1, 1, .inr (.inl (vp_updL f 0 r))))] (some (.int (nI 0)))) 0 0 (fun q => q = o) := by
  refine z_entryL (n := 7) (K := K) (Nat.le_of_ble_eq_true rfl) (fun a s h => ⟨h.1, h.2.2⟩) ?_
  intro p e s m below meth c ls X hr hml hlocks htab hpre hl
  obtain ⟨-, hP, -⟩ := hpre
  have hPC := hP.left
  have hPO := hP.right
  have hS : va_S (fun q => q = o) s.heap s.heap [] := va_S.rf
  have hl : lv_has ls 6 [(0, .ref (G 0)), (1, .int x), (2, .int y), (3, .int z), (4, .ref o)] := hl
  refine lv_aload X.1 X.2.1 zd_L_result_0 (lv_at hl 4 rfl) ?_
  refine lv_iconst (v := nI 0) X.1 X.2.1 zd_L_result_2 (by decide) ?_
  refine lv_aload_n X.1 X.2.1 zd_L_result_3 rfl (lv_at hl 0 rfl) ?_
  refine lv_iload_n X.1 X.2.1 zd_L_result_4 rfl (lv_at hl 1 rfl) ?_
  refine lv_iload_n X.1 X.2.1 zd_L_result_5 rfl (lv_at hl 2 rfl) ?_
  refine lv_iload_n X.1 X.2.1 zd_L_result_6 rfl (lv_at hl 3 rfl) ?_
  refine z_callP (A1 := fun _ => False) (As := [.int x, .int y, .int z]) (rest := [.int (nI 0), .ref o]) (q0 := 0) (ci := 3) X hml hM (zk_L_7 X.2.2.2.1 (z_rm (by omega) (by decide))) rfl rfl rfl hPC (fun _ h => h.elim) hS rfl hl.1 rfl (Nat.le_of_ble_eq_true rfl) zd_L_result_7 ⟨Nat.zero_le _, Nat.zero_le _⟩ (fun H locs _ hz hk9 hS => ?_)
  have hPO : va_P K.1 zcl [(o, .inl (K.2.2.1, 1, .inr (.inl f)))] H := hPO.keep (fun i q _ hq => hk9 q.1 hq id)
  refine z_last (q0 := 0) (w' := [(o, .inl (K.2.2.1, 1, .inr (.inl (vp_updL f 0 r))))]) X hPO (z_Do o) hS rfl (by decide) (by decide) rfl zd_L_result_10 (fun H locs hP hS => ?_)
  refine lv_goto (tgt := 22) X.1 X.2.1 zd_L_result_11 (by decide) ?_
  refine lv_iconst (v := nI 0) X.1 X.2.1 zd_L_result_22 (by decide) ?_
  exact z_iret X.1 X.2.1 hr hlocks rfl rfl hP hS zd_L_result_23
end ZL
