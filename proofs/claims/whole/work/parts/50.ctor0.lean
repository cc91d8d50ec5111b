/-! constructors: what a new object is -/
def zrN (n mc ms : Nat) : Room := { frames := n, cells := mc, slots := ms, locals := 40 * n }
def zPreN (K : zK) (B : State → Prop) (w : va_W) (sz : Nat) (av : List Value) : Array Value → State → Prop := fun v U => v = av.toArray ∧ U.heap.size = sz ∧ va_P K.1 zcl w U.heap ∧ va_K K.1 zcl (zty K) U ∧ B U
def zPostN (K : zK) (A : Nat → Prop) (φ : va_W → Prop) : Array Value → State → Outcome → State → Prop := fun _ st oc t => oc = .returned none ∧ (∃ w', φ w' ∧ va_P K.1 zcl w' t.heap ∧ va_D A w') ∧ va_F A st t
theorem zPreN_blind {K : zK} {B : State → Prop} {w : va_W} {sz : Nat} {av : List Value} (hB : ∀ (a : Array Value) (U : State) (g : JFrame) (mk : MethodId), B U → B (U.calling g mk a)) : FrameBlind (zPreN K B w sz av) := by
  intro a U g mk h
  obtain ⟨q0, q1, qP, qK, qB⟩ := h
  exact ⟨q0, q1, qP, va_K.moved (u := U) (U := U.calling g mk a) (Vm.Alike.refl U.vm) qK, hB a U g mk qB⟩
theorem va_D.to {A : Nat → Prop} {w w' : va_W} (hD : va_D A w) (h : w.map Prod.fst = w'.map Prod.fst) : va_D A w' := by
  have g : ∀ (i : Nat) (q : Nat × va_E), w'[i]? = some q → ∃ q', w[i]? = some q' ∧ q'.1 = q.1 := fun i q hq => by
    have h1 : (w'.map Prod.fst)[i]? = some q.1 := by rw [List.getElem?_map, hq]; rfl
    rw [← h, List.getElem?_map] at h1
    cases hw : w[i]? with
    | none => rw [hw] at h1; cases h1
    | some q' => rw [hw] at h1; exact ⟨q', rfl, Option.some.inj h1⟩
  constructor
  · intro i j p q hp hq e
    obtain ⟨p', hp', ep⟩ := g i p hp
    obtain ⟨q', hq', eq'⟩ := g j q hq
    exact hD.1 i j p' q' hp' hq' (by rw [ep, eq']; exact e)
  · intro k q hk
    obtain ⟨q', hq', e⟩ := g k q hk
    rw [← e]
    exact hD.2 k q' hq'
theorem z_D1 {h0 sz : Nat} {x : va_E} : va_D (va_A [(h0, x)] sz) [(h0, x)] := by
  constructor
  · intro i j p q hp hq _
    have h1 := (List.getElem?_eq_some_iff.mp hp).1
    have h2 := (List.getElem?_eq_some_iff.mp hq).1
    simp at h1 h2
    omega
  · intro k q hk
    exact va_A.in hk
theorem z_goodC {c0 : Cond} (h : c0 ∈ zW) : GoodIn zW (c0 :: zW) := by
  intro w hw
  rcases List.mem_cons.mp hw with rfl | hw
  · exact z_good h
  · exact z_good hw
section ZN
variable {p : Program} {l : Launch} {e : Env} {R : Room} {s : State} {m : MethodId} {args : Array Value} {below : List Frame} {meth : Method} {c : Code} {H : Heap} {locs : List Loc} {cells slots : Nat} {Q : State → Prop}
variable {K : zK} {own : String} {cc : ByteArray} {pc : Nat} {ls : Array Slot} {rest : List Value} {A : Nat → Prop} {w : va_W} {H0 : Heap}
theorem z_entryN {y : MethodName} {maxL n mc ms sz : Nat} {av : List Value} {B : State → Prop} {Qc : Array Value → State → Outcome → State → Prop} (hy : plainName y.cls = true) (hn : (lg_sl av).length ≤ maxL)
    (body : ∀ (p : Program) (e : Env) (s : State) (m : MethodId) (below : List Frame) (meth : Method) (c : Code) (ls : Array Slot), zFx K y.cls cc p s m av.toArray c → meth.sig.returnType = none → c.maxLocals = maxL → meth.locks = false → meth.name = y.name → s.heap.size = sz → va_P K.1 zcl w s.heap → B s → lv_has ls maxL (lv_args 0 av) →
      W p l e (zrN n mc ms) s m av.toArray below meth c s.heap [] 0 0 (MQ below Qc av.toArray s mc ms A) (F0 m 0 ls [])) :
    Met l y (Cond.code y cc maxL none :: zW) (zrN n mc ms) (zPreN K B w sz av) Qc mc ms A := by
  refine Met.ofW (cc := cc) (maxL := maxL) (ret := none) hy rfl ?_
  intro p e s m args below meth c s₁ B hml hv
  obtain ⟨rfl, hsz, hP, hK, hBs⟩ := hv
  have hts := atoms_spec (ws := Cond.code y cc maxL none :: zW) B.pre
  have hown : s.vm.findClass y.cls = some m.cls := findClass_of_methodNamed B.named
  have hl := lv_entry av (n := maxL) hn
  rw [lg_entry_eq]
  exact body p e s m below meth c _ ⟨B.exec, B.bytes, hown, fun w hw => hts w (List.mem_cons_of_mem _ hw), hK⟩ B.returns hml B.notSynchronized (name_of_methodNamed B.named B.method).1 hsz hP hBs hl
theorem z_vretN {mc ms : Nat} {φ : va_W → Prop} (hx : p.tables.exec = Jvm.exec) (hb : c.code = cc) (hr : meth.sig.returnType = none) (hlocks : meth.locks = false) (hφ : φ w) (hP : va_P K.1 zcl w H) (hD : va_D A w) (hS : va_S A s.heap H locs) (hdg : decode cc pc = .ok (.return_, 1)) :
    W p l e R s m args below meth c H locs mc ms (MQ below (zPostN K A φ) args s mc ms A) (F0 m pc ls []) :=
  W.vret hx hb hr (fun t ht hW => ⟨rfl, ⟨w, hφ, by rw [ht]; exact hP, hD⟩, hS.F ht⟩) hS.2.2 hdg
theorem z_uI (X : zFx K own cc p s m args c) : ∀ cB, va_RA s cB .int → cB = K.2.1 := fun cB h => Option.some.inj ((show s.vm.findClass _ = some cB from h).symm.trans (X.2.2.2.2.2 0 _ rfl).2)
theorem z_uL (X : zFx K own cc p s m args c) : ∀ cB, va_RA s cB .long → cB = K.2.2.1 := fun cB h => Option.some.inj ((show s.vm.findClass _ = some cB from h).symm.trans (X.2.2.2.2.2 1 _ rfl).2)
theorem z_uB (X : zFx K own cc p s m args c) : ∀ cB, va_RA s cB .boolean → cB = K.2.2.2 := fun cB h => Option.some.inj ((show s.vm.findClass _ = some cB from h).symm.trans (X.2.2.2.2.2 2 _ rfl).2)
theorem z_newa (X : zFx K own cc p s m args c) {atype : ArrayType} {ty : FieldType} {cA : ClassId} (hty : newarray.typeOf atype = ty) (harr : Cond.arrayClass ty ∈ zW) (hu : ∀ cB, va_RA s cB ty → cB = cA) (hP : va_P K.1 zcl w H) (hD : va_D A w) (hS : va_S A H0 H locs) (hA : ∀ q, H0.size ≤ q → A q)
    {n : Int32} {N' : Nat} {a0 : vp_A} (ha : ∀ cA : ClassId, vp_cell cA a0 = arrV cA N' (fun _ => defaultValue ty)) (hn : ¬ n < 0) (hN : n.toNatClampNeg = N') (hbytes : N' * componentBytes ty ≤ 536870912) (hcells : cells + 1 ≤ R.cells) (hslots : slots + N' ≤ R.slots) (hdg : decode cc pc = .ok (.newarray atype, 2))
    (kk : ∀ (q : Nat) (H1 : Heap), va_P K.1 zcl (w ++ [(q, .inl (cA, a0))]) H1 → va_D A (w ++ [(q, .inl (cA, a0))]) → va_S A H0 H1 locs →
      W p l e R s m args below meth c H1 locs (cells + 1) (slots + N') Q (F0 m (pc + 2) ls (.ref q :: rest))) : W p l e R s m args below meth c H locs cells slots Q (F0 m pc ls (.int n :: rest)) := by
  refine va_newa X.1 X.2.1 (by rw [hty]; exact X.2.2.2.1 _ harr) hty X.2.2.2.2 hP hD hS hA ha hn hN hbytes hcells hslots hdg (fun q cB H1 hK hP hD hS => ?_)
  have e : cB = cA := hu cB (hK.2 3 (cB, ty) rfl).2
  subst e
  exact kk q H1 hP hD hS
/-- a final field is written, in a constructor -/
theorem z_putF (X : zFx K own cc p s m args c) {C : String} {T : u_T} {N ci index q0 a : Nat} {fs : List Value} {v : Value} {w' : va_W} (ty0 : Nat → FieldType) (hin : ∀ w ∈ u_ws C T N, w ∈ zW) (hty : ∀ k, k < N → parseFieldDescriptor (T k).2.2.1 = some (ty0 k)) (hnm : ∀ a, a < N → ∀ b, b < N → a ≠ b → (T a).2.1 ≠ (T b).2.1) (hP : va_P K.1 zcl w H) (hD : va_D A w) (hS : va_S A H0 H locs) (he : w[q0]? = some (a, .inr (ci, fs))) (hc : zcl[ci]? = some (C, T, N)) (k : Nat) (hk : k < N) (hl : Cond.fieldLink own index (T k).1 (T k).2.1 (T k).2.2.1 ∈ zW) (hfin : (T k).2.2.2 = true) (hin2 : meth.name = "<init>") (hdecl : (T k).1 = own) (hn : narrow (ty0 k) v = v) (hfit : fits (ty0 k) v = true) (hlen : k < fs.length) (hw : w.set q0 (a, .inr (ci, fs.set k v)) = w') (hdg : decode cc pc = .ok (.putfield index, 3))
    (kk : ∀ (H1 : Heap) (locs1 : List Loc), va_P K.1 zcl w' H1 → va_D A w' → va_S A H0 H1 locs1 → W p l e R s m args below meth c H1 locs1 cells slots Q (F0 m (pc + 3) ls rest)) : W p l e R s m args below meth c H locs cells slots Q (F0 m pc ls (v :: .ref a :: rest)) := by
  refine va_putF (D := K.1) (ref := (T k).1) X.1 X.2.1 X.2.2.2.1 hin ty0 hty hnm X.2.2.1 X.2.2.2.2 hP hD hS q0 he hc k hk (X.2.2.2.1 _ hl) (fun _ h9 => h9) hfin hin2 hdecl (hty k hk) hn hfit hlen hdg (fun H1 locs1 h1 h2 h3 => ?_)
  rw [hw] at h1 h2
  exact kk H1 locs1 h1 h2 h3
/-- a constructor's call: what it makes comes beside the rest -/
theorem z_newcall {ws wr wc : va_W} {φ : va_W → Prop} {mc ms : Nat} {av : Array Value} {st0 : List Value} (hr : va_Run p l e R s m args below meth c H locs cells slots mc ms (F0 m pc ls st0) rest (zPostN K (va_A wc H.size) φ av) (va_A wc H.size)) (hP : va_P K.1 zcl ws H) (hD : va_D A ws) (hS : va_S A H0 H locs) (hA : ∀ q, H0.size ≤ q → A q) (isC isR : List Nat) (hC : isC.map (fun i => ws[i]?) = wc.map some) (hR : isR.map (fun i => ws[i]?) = wr.map some) (hn : va_nd isR = true) (hdis : ∀ i ∈ isR, i ∉ isC)
    (kk : ∀ (H1 : Heap) (locs1 : List Loc) (w1 : va_W), φ w1 → va_P K.1 zcl (wr ++ w1) H1 → va_D A (wr ++ w1) → va_S A H0 H1 locs1 → W p l e R s m args below meth c H1 locs1 (cells + mc) (slots + ms) Q (F0 m (pc + 3) ls rest)) : W p l e R s m args below meth c H locs cells slots Q (F0 m pc ls st0) := by
  intro T hT XS
  obtain ⟨v, st₀, t, T', L, h0, X', hL, e1, e2, ⟨hv, ⟨w1, hφ, hP1, hD1⟩, hF⟩, st⟩ := hr T hT XS
  cases hv
  have hFr := va_free hD hS hA isC hC
  obtain ⟨hz, hk⟩ := hF
  rw [h0] at hz hk
  rw [← e1] at hz hk hP1
  obtain ⟨hPj, hDj⟩ := va_join hP hD isC isR hC hR hn hdis hk hFr hP1 hD1
  have hS1 : va_S A H0 T'.heap (locs ++ L) := by
    refine ⟨Nat.le_trans hS.1 hz, fun q h1 h2 => ?_, fun q hq => ?_⟩
    · rw [hk q (Nat.lt_of_lt_of_le h1 hS.1) (fun h => h2 (hFr q h))]
      exact hS.2.1 q h1 h2
    · rcases List.mem_append.mp hq with h | h
      · exact hS.2.2 q h
      · exact hFr _ (hL q h)
  obtain ⟨t2, a1, b1⟩ := kk T'.heap (locs ++ L) w1 hφ hPj hDj hS1 T' rfl X'
  exact ⟨t2, st t2 a1, b1⟩
/-- Arrays.fill of a row of ints, from i on -/
theorem z_fill_loop {b0 q0 a n : Nat} {f : Nat → Int32} {x : Int32} {av : Array Value} (X : zFx K "java/util/Arrays" zb_Ja_fill p s m args c) (hr : meth.sig.returnType = none) (hlocks : meth.locks = false) (hn : n < 2 ^ 31) : ∀ (j i : Nat), i + j = n → ∀ (w : va_W), va_D A w → w[q0]? = some (a, .inl (K.2.1, n, .inl (fun j => if j < i then x else f j))) → ∀ (H : Heap) (locs : List Loc) (ls : Array Slot), va_P K.1 zcl w H → va_S A s.heap H locs → lv_has ls 4 [(3, .int (nI n)), (2, .int (nI i)), (0, .ref a), (1, .int x)] → W p l e R s m args below meth c H locs 0 0 (MQ below (zPost K A (w.set q0 (a, .inl (K.2.1, n, .inl (fun j => if j < n then x else f j)))) none) args s 0 0 A) (F0 m 5 ls []) := by
  intro j
  induction j with
  | zero =>
    intro i hi w hD ha H locs ls hP hS hl
    refine lv_iload_n X.1 X.2.1 zd_Ja_fill_5 rfl (lv_at hl 1 rfl) ?_
    refine lv_iload_n X.1 X.2.1 zd_Ja_fill_6 rfl (lv_at hl 0 rfl) ?_
    refine lv_icmp_ge (tgt := 20) X.1 X.2.1 zd_Ja_fill_7 (by decide) (fun _ => ?_) (fun h9 => absurd (by rw [nI_leI (by omega) (by omega)]; omega) h9)
    have hi' : i = n := by omega
    subst hi'
    have hw : w = w.set q0 (a, .inl (K.2.1, i, .inl (fun j => if j < i then x else f j))) := by
      apply List.ext_getElem?
      intro k
      by_cases e : q0 = k
      · subst e
        rw [List.getElem?_set_self (List.getElem?_eq_some_iff.mp ha).1, ha]
      · rw [List.getElem?_set_ne e]
    exact z_vret X.1 X.2.1 hr hlocks hw hP hS zd_Ja_fill_20
  | succ j ih =>
    intro i hi w hD ha H locs ls hP hS hl
    refine lv_iload_n X.1 X.2.1 zd_Ja_fill_5 rfl (lv_at hl 1 rfl) ?_
    refine lv_iload_n X.1 X.2.1 zd_Ja_fill_6 rfl (lv_at hl 0 rfl) ?_
    refine lv_icmp_ge (tgt := 20) X.1 X.2.1 zd_Ja_fill_7 (by decide) (fun h9 => absurd h9 (by rw [nI_leI (by omega) (by omega)]; omega)) (fun _ => ?_)
    refine lv_aload_n X.1 X.2.1 zd_Ja_fill_10 rfl (lv_at hl 2 rfl) ?_
    refine lv_iload_n X.1 X.2.1 zd_Ja_fill_11 rfl (lv_at hl 1 rfl) ?_
    refine lv_iload_n X.1 X.2.1 zd_Ja_fill_12 rfl (lv_at hl 3 rfl) ?_
    refine z_iast (q0 := q0) (g := fun j => if j < i + 1 then x else f j) (w' := w.set q0 (a, .inl (K.2.1, n, .inl (fun j => if j < i + 1 then x else f j)))) X hP hD hS ha (by omega) hn ?_ rfl zd_Ja_fill_13 (fun H locs hP hS => ?_)
    · funext k
      unfold upd
      by_cases e : k = i
      · rw [if_pos e, if_pos (by omega)]
      · rw [if_neg e]
        dsimp only
        by_cases e2 : k < i
        · rw [if_pos e2, if_pos (by omega)]
        · rw [if_neg e2, if_neg (by omega)]
    refine lv_iinc (v := nI (i + 1)) (lv' := [(2, .int (nI (i + 1))), (3, .int (nI n)), (0, .ref a), (1, .int x)]) X.1 X.2.1 zd_Ja_fill_14 hl (k := 1) rfl (nI_1 _) (by decide) rfl (fun ls hl => ?_)
    refine lv_goto (tgt := 5) X.1 X.2.1 zd_Ja_fill_17 (by decide) ?_
    have h1 := ih (i + 1) (by omega) (w.set q0 (a, .inl (K.2.1, n, .inl (fun j => if j < i + 1 then x else f j)))) (hD.set ha) (by rw [List.getElem?_set_self (List.getElem?_eq_some_iff.mp ha).1]) H locs ls hP hS (lv_sub hl [1, 0, 2, 3] rfl)
    rw [List.set_set] at h1
    exact h1
theorem k_fill (l : Launch) (K : zK) {q0 a n : Nat} {f : Nat → Int32} {x : Int32} {w w' : va_W} (hD : va_D A w) (ha : w[q0]? = some (a, .inl (K.2.1, n, .inl f))) (hn : n < 2 ^ 31) (hw : w.set q0 (a, .inl (K.2.1, n, .inl (fun j => if j < n then x else f j))) = w') : zMet l K A zy_Ja_fill zws_Ja_fill 0 [.ref a, .int x] w w' none := by
  refine z_entry (by decide) (Nat.le_of_ble_eq_true rfl) ?_
  intro p e s m below meth c ls X hr hml hlocks hP hl
  have hS : va_S A s.heap s.heap [] := va_S.rf
  have hl : lv_has ls 4 [(0, .ref a), (1, .int x)] := hl
  refine lv_iconst (v := nI 0) X.1 X.2.1 zd_Ja_fill_0 (by decide) ?_
  refine lv_istore_n (lv' := [(2, .int (nI 0)), (0, .ref a), (1, .int x)]) X.1 X.2.1 zd_Ja_fill_1 rfl hl (by decide) rfl (fun ls hl => ?_)
  refine lv_aload_n X.1 X.2.1 zd_Ja_fill_2 rfl (lv_at hl 1 rfl) ?_
  refine va_alen (D := K.1) (v := nI n) X.1 X.2.1 X.2.2.2.2 hP q0 0 ha rfl rfl zd_Ja_fill_3 ?_
  refine lv_istore_n (lv' := [(3, .int (nI n)), (2, .int (nI 0)), (0, .ref a), (1, .int x)]) X.1 X.2.1 zd_Ja_fill_4 rfl hl (by decide) rfl (fun ls hl => ?_)
  rw [← hw]
  exact z_fill_loop (b0 := 0) (av := #[]) X hr hlocks hn n 0 (by omega) w hD (by simpa using ha) s.heap [] ls hP hS hl
end ZN
