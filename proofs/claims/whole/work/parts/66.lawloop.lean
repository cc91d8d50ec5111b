/-! the law's end, and what holds at its entry (from the skeleton) -/
/-! THE CLAIM OUT OF ONE WALK OF THE LAW'S BODY. Your part is whole_start (and what it stands on); all else here is the same for every law, but numbers. -/
abbrev R_law : String := zR_L
def lw_P (b : Addr) (xs : List Int32) (args : Array Value) (s : State) : Prop := args = #[.ref b] ∧ s.IntsAt b xs ∧ xs.length ≤ 3072 ∧ (Jvm.Cond.and given_1 narrow_1).before args s = true
def lw_Q (_ : Array Value) (s : State) (o : Outcome) (t : State) : Prop := o = .returned (some (.int 1)) ∧ Framed s o t [] 601024 7293033
def lw_Z (below : List Frame) (a : Array Value) (s : State) : State → Prop := fun t => ∃ o, t.status = .running ∧ Ended t below o ∧ lw_Q a s o t
/-- the law's own end, with 1 on the stack, nothing written that was there before, its room as the claim has it -/
theorem lw_ret {p : Program} {l : Launch} {e : Env} {s : State} {m : MethodId} {below : List Frame} {meth : Method} {c : Code} {b : Nat} (hx : p.tables.exec = Jvm.exec) (hb : c.code = code) (hr : meth.sig.returnType = ret) (hlocks : meth.locks = false) {pc : Nat} {H : Heap} {ls : Array Slot} (hdg : decode code pc = .ok (.ireturn, 1)) : W p l e room_1 s m #[Value.ref b] below meth c H [] 601024 7293033 (lw_Z below #[Value.ref b] s) (F0 m pc ls [.int 1]) := by
  intro T hT X
  obtain ⟨fs, hret, hrun, hended, hW, hframe⟩ := X.leave (v := some (.int 1)) (hlocks := hlocks) (fun h => by rw [hr] at h; cases h)
  have hmeth' : T.vm.method? m = some meth := X.method'
  refine ⟨T.setFrames fs, ?_, .returned (some (.int 1)), hrun, hended, rfl, ⟨_, rfl⟩, hW, hframe⟩
  jvm_step X.here [X.here.top, hx, hb, hdg, hmeth', hr, ret, narrow_b1]
  (try refine ⟨rfl, ?_⟩); (try refine ⟨rfl, ?_⟩)
  first | (intro acts; rw [hret _ acts rfl rfl rfl]) | rw [hret _ _ rfl rfl rfl]
  exact Steps.refl _
/-- what holds at the law's entry: the machine, the code, the tables' words (any of lw_tbl by 'hts w (by decide +kernel)'), the script of L ints xs at the cell b, what the Statement gives of the start (any of its parts by flat_of_before) -/
def lw_At (p : Program) (s : State) (m : MethodId) (meth : Method) (c : Code) (b L : Nat) (xs : Nat → Int32) : Prop :=
  p.tables.exec = Jvm.exec ∧ c.code = code ∧ meth.sig.returnType = ret ∧ c.maxLocals = 8 ∧ s.vm.findClass R_law = some m.cls ∧ (∀ w ∈ lw_tbl, w.before #[Value.ref b] s = true) ∧ va_X b L xs s s.heap ∧ b < s.heap.size ∧ meth.locks = false ∧ (Jvm.Cond.and given_1 narrow_1).before #[Value.ref b] s = true
/-! the law's loop and its start (by program: wip/gen/lawend.py) -/
set_option maxHeartbeats 4000000 in
set_option maxRecDepth 100000 in
theorem law_loop {p : Program} {l : Launch} {e : Env} {s : State} {m : MethodId} {below : List Frame} {meth : Method} {c : Code} {K : zK} {GC GM : Nat → Nat} {AC AM : Nat → Prop} {o b L : Nat} {xs : Nat → Int32} (F : lC l K GC GM AC AM o b L xs p s m c) (hL : L ≤ 3072) (hr : meth.sig.returnType = ret) (hlocks : meth.locks = false) : ∀ (j n : Nat), L < 6 * (n + j) + 6 → 6 * n ≤ L + 5 → ∀ (σ : cS) (mm : mS) (f : Nat → Int64) (H : Heap) (locs : List Loc) (ls : Array Slot), Rel σ mm → va_P K.1 zcl (cW K GC σ) H → va_P K.1 zcl (mW K GM mm) H → va_P K.1 zcl (lO K o f) H → va_S (lA s) s.heap H locs → lv_has ls 8 (lLv b (6 * n) o GC GM) → W p l e room_1 s m #[.ref b] below meth c H locs (47 + n) (10236 + 6 * n) (lw_Z below #[.ref b] s) (F0 m 23 ls []) := by
  obtain ⟨X, hml, hX, hbl, -⟩ := id F
  intro j
  induction j with
  | zero =>
    intro n hj hn σ mm f H locs ls hR hPC hPM hPO hS hl
    refine lv_iload X.1 X.2.1 zd_L_law_23 (lv_at hl 0 rfl) ?_
    refine lv_aload_n X.1 X.2.1 zd_L_law_25 rfl (lv_at hl 4 rfl) ?_
    refine va_slen X.1 X.2.1 hX hbl (Nat.not_le.mpr hbl) hS zd_L_law_26 ?_
    refine lv_bipush (v := nI 6) X.1 X.2.1 zd_L_law_27 (by decide) ?_
    refine lv_isub X.1 X.2.1 zd_L_law_29 ?_
    refine lv_icmp_gt (tgt := 766) X.1 X.2.1 zd_L_law_30 (by decide) (fun _ => ?_) (fun h9 => absurd ((z_step hL (by omega)).mpr (by omega)) h9)
    exact W.widen (k := 601024) (n := 7293033) (by omega) (by omega) (va_forget hS.2.2 (lv_iconst (v := 1) X.1 X.2.1 zd_L_law_766 (by decide) (lw_ret X.1 X.2.1 hr hlocks zd_L_law_767)))
  | succ j ih =>
    intro n hj hn σ mm f H locs ls hR hPC hPM hPO hS hl
    refine lv_iload X.1 X.2.1 zd_L_law_23 (lv_at hl 0 rfl) ?_
    refine lv_aload_n X.1 X.2.1 zd_L_law_25 rfl (lv_at hl 4 rfl) ?_
    refine va_slen X.1 X.2.1 hX hbl (Nat.not_le.mpr hbl) hS zd_L_law_26 ?_
    refine lv_bipush (v := nI 6) X.1 X.2.1 zd_L_law_27 (by decide) ?_
    refine lv_isub X.1 X.2.1 zd_L_law_29 ?_
    refine lv_icmp_gt (tgt := 766) X.1 X.2.1 zd_L_law_30 (by decide) (fun _ => ?_) (fun h9 => ?_)
    · exact W.widen (k := 601024) (n := 7293033) (by omega) (by omega) (va_forget hS.2.2 (lv_iconst (v := 1) X.1 X.2.1 zd_L_law_766 (by decide) (lw_ret X.1 X.2.1 hr hlocks zd_L_law_767)))
    · have hi : 6 * n + 6 ≤ L := Nat.not_lt.mp fun h => h9 ((z_step hL (by omega)).mpr h)
      have hcs : 47 + n + 1 ≤ room_1.cells ∧ 10236 + 6 * n + 6 ≤ room_1.slots := by simp only [room_1]; omega
      have kont : ∀ (σ : cS) (mm : mS) (f : Nat → Int64) (H : Heap) (locs : List Loc) (ls : Array Slot), Rel σ mm → va_P K.1 zcl (cW K GC σ) H → va_P K.1 zcl (mW K GM mm) H → va_P K.1 zcl (lO K o f) H → va_S (lA s) s.heap H locs → lv_has ls 8 (lLv b (6 * n) o GC GM) → W p l e room_1 s m #[.ref b] below meth c H locs (47 + n + 1) (10236 + 6 * n + 6) (lw_Z below #[.ref b] s) (F0 m 760 ls []) := by
        intro σ mm f H locs ls hR hPC hPM hPO hS hl
        refine lv_iinc (v := nI (6 * (n + 1))) (lv' := lLv b (6 * (n + 1)) o GC GM) X.1 X.2.1 zd_L_law_760 hl (k := 0) rfl (nI_add (6 * n) 6) (by decide) rfl (fun ls hl => ?_)
        refine lv_goto (tgt := 23) X.1 X.2.1 zd_L_law_763 (by decide) ?_
        exact ih (n + 1) (by omega) (by omega) σ mm f H locs ls hR hPC hPM hPO hS hl
      refine lv_aload_n X.1 X.2.1 zd_L_law_33 rfl (lv_at hl 4 rfl) ?_
      refine lv_iload X.1 X.2.1 zd_L_law_34 (lv_at hl 0 rfl) ?_
      refine z_sld X hX hbl hS (by omega) hL zd_L_law_36 ?_
      refine lv_bipush (v := nI 15) X.1 X.2.1 zd_L_law_37 (by decide) ?_
      refine lv_iand X.1 X.2.1 zd_L_law_39 ?_
      obtain ⟨k, hk, ek⟩ := and15 (xs (6 * n))
      refine z_top ek ?_
      rcases (show k = 0 ∨ k = 1 ∨ k = 2 ∨ k = 3 ∨ k = 4 ∨ k = 5 ∨ k = 6 ∨ k = 7 ∨ k = 8 ∨ k = 9 ∨ k = 10 ∨ k = 11 ∨ k = 12 ∨ k = 13 ∨ k = 14 ∨ k = 15 by omega) with rfl | rfl | rfl | rfl | rfl | rfl | rfl | rfl | rfl | rfl | rfl | rfl | rfl | rfl | rfl | rfl
      · exact lv_tableIn (tgt := 112) X.1 X.2.1 zd_L_law_40 (by decide) (by decide) rfl (by decide) (law_0 F hL hi hcs hR hPC hPM hPO hS hl kont)
      · exact lv_tableIn (tgt := 181) X.1 X.2.1 zd_L_law_40 (by decide) (by decide) rfl (by decide) (law_1 F hL hi hcs hR hPC hPM hPO hS hl kont)
      · exact lv_tableIn (tgt := 206) X.1 X.2.1 zd_L_law_40 (by decide) (by decide) rfl (by decide) (law_2 F hL hi hcs hR hPC hPM hPO hS hl kont)
      · exact lv_tableIn (tgt := 231) X.1 X.2.1 zd_L_law_40 (by decide) (by decide) rfl (by decide) (law_3 F hL hi hcs hR hPC hPM hPO hS hl kont)
      · exact lv_tableIn (tgt := 280) X.1 X.2.1 zd_L_law_40 (by decide) (by decide) rfl (by decide) (law_4 F hL hi hcs hR hPC hPM hPO hS hl kont)
      · exact lv_tableIn (tgt := 361) X.1 X.2.1 zd_L_law_40 (by decide) (by decide) rfl (by decide) (law_5 F hL hi hcs hR hPC hPM hPO hS hl kont)
      · exact lv_tableIn (tgt := 434) X.1 X.2.1 zd_L_law_40 (by decide) (by decide) rfl (by decide) (law_6 F hL hi hcs hR hPC hPM hPO hS hl kont)
      · exact lv_tableIn (tgt := 471) X.1 X.2.1 zd_L_law_40 (by decide) (by decide) rfl (by decide) (law_7 F hL hi hcs hR hPC hPM hPO hS hl kont)
      · exact lv_tableIn (tgt := 520) X.1 X.2.1 zd_L_law_40 (by decide) (by decide) rfl (by decide) (law_8 F hL hi hcs hR hPC hPM hPO hS hl kont)
      · exact lv_tableIn (tgt := 545) X.1 X.2.1 zd_L_law_40 (by decide) (by decide) rfl (by decide) (law_9 F hL hi hcs hR hPC hPM hPO hS hl kont)
      · exact lv_tableIn (tgt := 594) X.1 X.2.1 zd_L_law_40 (by decide) (by decide) rfl (by decide) (law_10 F hL hi hcs hR hPC hPM hPO hS hl kont)
      · exact lv_tableIn (tgt := 673) X.1 X.2.1 zd_L_law_40 (by decide) (by decide) rfl (by decide) (law_11 F hL hi hcs hR hPC hPM hPO hS hl kont)
      · exact lv_tableIn (tgt := 710) X.1 X.2.1 zd_L_law_40 (by decide) (by decide) rfl (by decide) (law_12 F hL hi hcs hR hPC hPM hPO hS hl kont)
      · exact lv_tableIn (tgt := 723) X.1 X.2.1 zd_L_law_40 (by decide) (by decide) rfl (by decide) (law_13 F hL hi hcs hR hPC hPM hPO hS hl kont)
      · exact lv_tableOut (tgt := 760) X.1 X.2.1 zd_L_law_40 (by decide) (by decide) (W.widen (by omega) (by omega) (kont σ mm f H locs ls hR hPC hPM hPO hS hl))
      · exact lv_tableOut (tgt := 760) X.1 X.2.1 zd_L_law_40 (by decide) (by decide) (W.widen (by omega) (by omega) (kont σ mm f H locs ls hR hPC hPM hPO hS hl))
theorem z_arr {args : Array Value} {s : State} {ty : FieldType} (hty : ty = .int ∨ ty = .long ∨ ty = .boolean) (h : (Cond.arrayClass ty).before args s = true) : ∃ cA, ArrOfT s cA ty ∧ va_RA s cA ty := by
  obtain ⟨cA, kA, comp, h1, h2, h3⟩ := Cond.arrayClass_spec h
  refine ⟨cA, fun n z => ⟨fun k h => (by cases h), kA, h2, comp, h3⟩, ?_⟩
  rcases hty with rfl | rfl | rfl <;> exact h1
def zIn (w : va_W) : Nat → Prop := fun q => ∃ (k : Nat) (e : va_E), w[k]? = some (q, e)
theorem zIn_D {A : Nat → Prop} {w : va_W} (h : va_D A w) : va_D (zIn w) w := ⟨h.1, fun k q hk => ⟨k, q.2, hk⟩⟩
theorem zIn_A {A : Nat → Prop} {w : va_W} (h : va_D A w) : ∀ q, zIn w q → A q := fun q ⟨k, e, hk⟩ => h.2 k (q, e) hk
theorem zIn_split {A : Nat → Prop} {w1 w2 : va_W} (h : va_D A (w1 ++ w2)) : va_D A w1 ∧ va_D A w2 ∧ ∀ q, zIn w1 q → zIn w2 q → False := by
  have hl : ∀ (i : Nat) (q : Nat × va_E), w1[i]? = some q → (w1 ++ w2)[i]? = some q := fun i q hi => by
    rw [List.getElem?_append_left (List.getElem?_eq_some_iff.mp hi).1]; exact hi
  have hr : ∀ (i : Nat) (q : Nat × va_E), w2[i]? = some q → (w1 ++ w2)[w1.length + i]? = some q := fun i q hi => by
    rw [List.getElem?_append_right (by omega), Nat.add_sub_cancel_left]; exact hi
  refine ⟨⟨fun i j p q hp hq e => h.1 i j p q (hl i p hp) (hl j q hq) e, fun k q hk => h.2 k q (hl k q hk)⟩, ⟨fun i j p q hp hq e => ?_, fun k q hk => h.2 _ q (hr k q hk)⟩, ?_⟩
  · have := h.1 _ _ p q (hr i p hp) (hr j q hq) e
    omega
  · intro q h1 h2
    obtain ⟨i, e1, hi⟩ := h1
    obtain ⟨j, e2, hj⟩ := h2
    have h3 := h.1 _ _ _ _ (hl i _ hi) (hr j _ hj) rfl
    have h4 := (List.getElem?_eq_some_iff.mp hi).1
    omega
theorem z_range {w : va_W} {x : Nat × va_E} {n : Nat} (hn : w.length = n) : (List.range n).map (fun i => (w ++ [x])[i]?) = w.map some := by
  subst hn
  apply List.ext_getElem?
  intro i
  rw [List.getElem?_map, List.getElem?_map]
  by_cases h : i < w.length
  · rw [List.getElem?_range h, List.getElem?_eq_getElem h]
    show some ((w ++ [x])[i]?) = _
    rw [List.getElem?_append_left h, List.getElem?_eq_getElem h]
    rfl
  · rw [List.getElem?_eq_none (by simp; omega), List.getElem?_eq_none (by omega)]
    rfl
theorem z_last1 {w : va_W} {x : Nat × va_E} {n : Nat} (hn : w.length = n) : [n].map (fun i => (w ++ [x])[i]?) = [x].map some := by
  subst hn
  simp
set_option maxHeartbeats 4000000 in
set_option maxRecDepth 100000 in
/-- what the start says of the tables -/
theorem z_K0 {args : Array Value} {s : State} (hzw : ∀ w ∈ zW, w.before args s = true) : ∃ K : zK, va_K K.1 zcl (zty K) s := by
  obtain ⟨c0, i0, k0⟩ := u_known (C := zR_T) (T := zF_T) (N := 7) (n := 7) hzw zin_T (hzw _ (zin 53 (by decide +kernel) rfl))
  obtain ⟨c1, i1, k1⟩ := u_known (C := zR_A) (T := zF_A) (N := 9) (n := 9) hzw zin_A (hzw _ (zin 83 (by decide +kernel) rfl))
  obtain ⟨c2, i2, k2⟩ := u_known (C := zR_M) (T := zF_M) (N := 7) (n := 7) hzw zin_M (hzw _ (zin 117 (by decide +kernel) rfl))
  obtain ⟨c3, i3, k3⟩ := u_known (C := zR_W) (T := zF_W) (N := 4) (n := 4) hzw zin_W (hzw _ (zin 45 (by decide +kernel) rfl))
  obtain ⟨c4, i4, k4⟩ := u_known (C := zR_R) (T := zF_R) (N := 26) (n := 26) hzw zin_R (hzw _ (zin 519 (by decide +kernel) rfl))
  obtain ⟨cI, aI, rI⟩ := z_arr (ty := .int) (Or.inl rfl) (hzw _ (zin 81 (by decide +kernel) rfl))
  obtain ⟨cL, aL, rL⟩ := z_arr (ty := .long) (Or.inr (Or.inl rfl)) (hzw _ (zin 80 (by decide +kernel) rfl))
  obtain ⟨cB, aB, rB⟩ := z_arr (ty := .boolean) (Or.inr (Or.inr rfl)) (hzw _ (zin 603 (by decide +kernel) rfl))
  refine ⟨((fun k => match k with | 0 => c0 | 1 => c1 | 2 => c2 | 3 => c3 | _ => c4, fun k => match k with | 0 => i0 | 1 => i1 | 2 => i2 | 3 => i3 | _ => i4), cI, cL, cB), ?_, ?_⟩
  · intro k q hq
    match k, hq with
    | 0, hq => cases hq; exact k0
    | 1, hq => cases hq; exact k1
    | 2, hq => cases hq; exact k2
    | 3, hq => cases hq; exact k3
    | 4, hq => cases hq; exact k4
    | k + 5, hq => cases hq
  · intro k q hq
    match k, hq with
    | 0, hq => cases hq; exact ⟨aI, rI⟩
    | 1, hq => cases hq; exact ⟨aL, rL⟩
    | 2, hq => cases hq; exact ⟨aB, rB⟩
    | k + 3, hq => cases hq
set_option maxHeartbeats 4000000 in
set_option maxRecDepth 100000 in
/-- what the start says for throws -/
theorem z_Th0 {args : Array Value} {s : State} (hts : ∀ w ∈ lw_tbl, w.before args s = true) (hgv : (Jvm.Cond.and given_1 narrow_1).before args s = true) : zTh s := by
  have hs := flat_of_before _ hgv
  obtain ⟨a1, -, -, -, q1, -⟩ := Cond.exactly_spec (args := args) (first := s) (o := none) (s := s) (idx := []) (t := .string zR_W 104) (cls := "java/lang/String") (hs _ (by decide +kernel))
  obtain ⟨a2, -, -, -, q2, -⟩ := Cond.exactly_spec (args := args) (first := s) (o := none) (s := s) (idx := []) (t := .string zR_W 111) (cls := "java/lang/String") (hs _ (by decide +kernel))
  exact ⟨(va_Nw.of rfl (hts (zDe "java/lang/RuntimeException") (List.mem_of_getElem? (i := 439) (by decide +kernel)))), (va_Nw.of rfl (hts (zDe "java/lang/Exception") (List.mem_of_getElem? (i := 441) (by decide +kernel)))), (va_Nw.of rfl (hts (zDe "java/lang/Throwable") (List.mem_of_getElem? (i := 443) (by decide +kernel)))), (va_Nw.of rfl (hts (.castable zXA zXA) (List.mem_of_getElem? (i := 437) (by decide +kernel)))), (va_Nw.of rfl (hts (.castable zXS zXS) (List.mem_of_getElem? (i := 504) (by decide +kernel)))), ⟨a1, vk_R.of (hts (.stringRef zR_W 104 zTA) (List.mem_of_getElem? (i := 475) (by decide +kernel))) q1⟩, ⟨a2, vk_R.of (hts (.stringRef zR_W 111 zTS) (List.mem_of_getElem? (i := 511) (by decide +kernel))) q2⟩, va_Nc.of (hs _ (by decide +kernel) : (Cond.not (.castable zXS zXA)).before args s = true), zSt.of (hts _ (List.mem_of_getElem? (i := 462) (by decide +kernel))) (hs _ (by decide +kernel)), zSt.of (hts _ (List.mem_of_getElem? (i := 464) (by decide +kernel))) (hs _ (by decide +kernel))⟩
