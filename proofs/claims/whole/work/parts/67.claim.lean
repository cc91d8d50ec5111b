abbrev va_E0 (K : zK) : va_E := .inl (K.2.2.1, 1, .inr (.inl (fun _ => 0)))
set_option maxHeartbeats 4000000 in
set_option maxRecDepth 100000 in
/-- the law, from its entry -/
theorem whole_start {p : Program} {e : Env} {s : State} {m : MethodId} {below : List Frame} {meth : Method} {c : Code} (l : Launch) (hfl : l.stackTraces = false) {b L : Nat} {xs : Nat → Int32} (hL : L ≤ 3072) (C0 : lw_At p s m meth c b L xs) : W p l e room_1 s m #[Value.ref b] below meth c s.heap [] 0 0 (lw_Z below #[Value.ref b] s) (entryFrame m ([Value.ref b] : List Value).toArray 8) := by
  obtain ⟨hx, hb, hr, hml, hown, hts, hX, hbl, hlocks, hgv⟩ := id C0
  have hzw : ∀ w ∈ zW, w.before #[Value.ref b] s = true := fun w hw => hts w (List.mem_filter.mp hw).1
  obtain ⟨K, hK⟩ := z_K0 hzw
  have hth := z_Th0 hts hgv
  have X : zFx K zR_L zb_L_law p s m #[Value.ref b] c := ⟨hx, hb, hown, hzw, hK⟩
  have hBW : zBW s := ⟨va_Nw.of rfl (hts (.methodLinkNest zR_W 11 zy_T_init zR_W) (List.mem_of_getElem? (i := 54) (by decide +kernel))), va_Nw.of rfl (hts (.methodLinkNest zR_W 18 zy_A_init zR_W) (List.mem_of_getElem? (i := 84) (by decide +kernel)))⟩
  have hA : ∀ q : Nat, s.heap.size ≤ q → lA s q := fun _ h => h
  have hS : va_S (lA s) s.heap s.heap [] := va_S.rf
  have hP : va_P K.1 zcl [] s.heap := fun k q h => by simp at h
  have hD : va_D (lA s) [] := ⟨fun i j p q h => by simp at h, fun k q h => by simp at h⟩
  have hl := lv_entry ([.ref b]) (n := 8) (Nat.le_of_ble_eq_true rfl)
  rw [lg_entry_eq]
  generalize (lg_sl ([.ref b]) ++ List.replicate (8 - (lg_sl ([.ref b])).length) Slot.unset).toArray = ls at hl ⊢
  have hl : lv_has ls 8 [(0, .ref b)] := hl
  refine va_new (ci := 3) (fs := [.null, .null, .null, .null]) (C := zR_W) (T := zF_W) (N := 4) X.1 X.2.1 hzw zin_W zt_W zty_W X.2.2.1 (hzw _ (zin 44 (by decide +kernel) rfl)) (hzw _ (zin 45 (by decide +kernel) rfl)) (hzw _ (zin 31 (by decide +kernel) rfl)) hK hP hD hS hA rfl (fun j hj => by rcases (show j = 0 ∨ j = 1 ∨ j = 2 ∨ j = 3 by omega) with rfl | rfl | rfl | rfl <;> rfl) (by decide) (by decide) zd_L_law_0 (fun h0 H hP hD hS => ?_)
  have hP : va_P K.1 zcl [(h0, .inr (3, [.null, .null, .null, .null]))] H := hP
  have hD : va_D (lA s) [(h0, .inr (3, [.null, .null, .null, .null]))] := hD
  refine lv_dup X.1 X.2.1 zd_L_law_3 rfl ?_
  refine z_newcall (wr := []) (va_runI (As := []) (rest := [.ref h0]) ⟨X.1, X.2.1, hml, X.2.2.1, hzw⟩ (k_W_init l K h0 H.size) (cwI 0 hzw (z_goodC (zin 48 (by decide +kernel) rfl)) rfl rfl rfl (hzw _ (zin 31 (by decide +kernel) rfl)) (hzw _ (zin 46 (by decide +kernel) rfl)) (hzw _ (zin 47 (by decide +kernel) rfl)) rfl (by decide +kernel) ⟨by decide, by decide⟩) ⟨zPreN_blind (fun _ U _ _ h => ⟨va_Nw.same rfl rfl h.1, va_Nw.same rfl rfl h.2⟩), fun U hU hWm => ⟨rfl, by rw [hU], by rw [hU]; exact hP, va_K.moved hWm.alike hK, va_Nw.warmM hWm hBW.1, va_Nw.warmM hWm hBW.2⟩⟩ rfl rfl hl.1 rfl (lv_room (Nat.le_of_ble_eq_true rfl)) zd_L_law_4 ⟨by decide, by decide⟩) hP hD hS hA [0] [] rfl rfl rfl (by decide) (fun H2 locs w1 hw hP2 hD2 hS2 => ?_)
  obtain ⟨GC, hG0, rfl⟩ := hw
  subst hG0
  clear hP hD hS
  have hP : va_P K.1 zcl (cW K GC cZ) H2 := hP2
  have hD : va_D (lA s) (cW K GC cZ) := hD2
  have hS := hS2
  refine W.eq (g2 := F0 m 7 ls [.ref (GC 0)]) rfl ?_
  refine lv_astore_n (lv' := [(1, .ref (GC 0)), (0, .ref b)]) X.1 X.2.1 zd_L_law_7 rfl hl (by decide) rfl (fun ls hl => ?_)
  refine va_new (ci := 4) (fs := [.int (nI 0), .int (nI 0), .null, .null, .null, .null, .null, .int (nI 0), .null, .null, .null, .null, .null, .null, .null, .null, .null, .null, .null, .null, .int (nI 0), .null, .null, .int (nI 0), .int (nI 0), .null]) (C := zR_R) (T := zF_R) (N := 26) X.1 X.2.1 hzw zin_R zt_R zty_R X.2.2.1 (hzw _ (zin 518 (by decide +kernel) rfl)) (hzw _ (zin 519 (by decide +kernel) rfl)) (hzw _ (zin 36 (by decide +kernel) rfl)) hK hP hD hS hA rfl (fun j hj => by rcases (show j = 0 ∨ j = 1 ∨ j = 2 ∨ j = 3 ∨ j = 4 ∨ j = 5 ∨ j = 6 ∨ j = 7 ∨ j = 8 ∨ j = 9 ∨ j = 10 ∨ j = 11 ∨ j = 12 ∨ j = 13 ∨ j = 14 ∨ j = 15 ∨ j = 16 ∨ j = 17 ∨ j = 18 ∨ j = 19 ∨ j = 20 ∨ j = 21 ∨ j = 22 ∨ j = 23 ∨ j = 24 ∨ j = 25 by omega) with rfl | rfl | rfl | rfl | rfl | rfl | rfl | rfl | rfl | rfl | rfl | rfl | rfl | rfl | rfl | rfl | rfl | rfl | rfl | rfl | rfl | rfl | rfl | rfl | rfl | rfl <;> rfl) (by decide) (by decide) zd_L_law_8 (fun h1 H hP hD hS => ?_)
  refine lv_dup X.1 X.2.1 zd_L_law_11 rfl ?_
  refine z_newcall (wr := cW K GC cZ) (va_runI (As := []) (rest := [.ref h1]) ⟨X.1, X.2.1, hml, X.2.2.1, hzw⟩ (k_R_init l K h1 H.size) (cwI 0 hzw (z_goodC (zin 522 (by decide +kernel) rfl)) rfl rfl rfl (hzw _ (zin 36 (by decide +kernel) rfl)) (hzw _ (zin 520 (by decide +kernel) rfl)) (hzw _ (zin 521 (by decide +kernel) rfl)) rfl (by decide +kernel) ⟨by decide, by decide⟩) ⟨zPreN_blind (fun _ _ _ _ _ => trivial), fun U hU hWm => ⟨rfl, by rw [hU], by rw [hU]; exact hP.right, va_K.moved hWm.alike hK, trivial⟩⟩ rfl rfl hl.1 rfl (lv_room (Nat.le_of_ble_eq_true rfl)) zd_L_law_12 ⟨by decide, by decide⟩) hP hD hS hA [25] (List.range 25) (z_last1 (by rfl)) (z_range (by rfl)) (by decide) (by decide) (fun H3 locs w1 hw hP3 hD3 hS3 => ?_)
  obtain ⟨GM, hG0, rfl⟩ := hw
  subst hG0
  clear hP hD hS
  have hP : va_P K.1 zcl (cW K GC cZ ++ mW K GM mZ) H3 := hP3
  have hD : va_D (lA s) (cW K GC cZ ++ mW K GM mZ) := hD3
  have hS := hS3
  refine W.eq (g2 := F0 m 15 ls [.ref (GM 0)]) rfl ?_
  refine lv_astore_n (lv' := [(2, .ref (GM 0)), (1, .ref (GC 0)), (0, .ref b)]) X.1 X.2.1 zd_L_law_15 rfl hl (by decide) rfl (fun ls hl => ?_)
  refine lv_iconst (v := nI 1) X.1 X.2.1 zd_L_law_16 (by decide) ?_
  refine z_newa (atype := .long) (ty := .long) (cA := K.2.2.1) (N' := 1) (a0 := (1, .inr (.inl (fun _ => 0)))) X rfl (zin 80 (by decide +kernel) rfl) (z_uL X) hP hD hS hA (fun _ => rfl) (by decide) (by decide) (by decide) (by decide) (by decide) zd_L_law_17 (fun o H hP hD hS => ?_)
  refine lv_astore_n (lv' := [(3, .ref o), (2, .ref (GM 0)), (1, .ref (GC 0)), (0, .ref b)]) X.1 X.2.1 zd_L_law_19 rfl hl (by decide) rfl (fun ls hl => ?_)
  refine lv_iconst (v := nI 0) X.1 X.2.1 zd_L_law_20 (by decide) ?_
  refine lv_istore (lv' := lLv b (6 * 0) o GC GM) X.1 X.2.1 zd_L_law_21 hl (by decide) rfl (fun ls hl => ?_)
  obtain ⟨hD1, hDO, hdO⟩ := zIn_split hD
  obtain ⟨hDC, hDM, hdM⟩ := zIn_split hD1
  have hC : ∀ σ, va_D (zIn (cW K GC cZ)) (cW K GC σ) := fun σ => (zIn_D hDC).to rfl
  have hM : ∀ σ, va_D (zIn (mW K GM mZ)) (mW K GM σ) := fun σ => (zIn_D hDM).to rfl
  have ho : zIn [(o, va_E0 K)] o := ⟨0, _, rfl⟩
  have inl : ∀ q, zIn (cW K GC cZ) q → zIn (cW K GC cZ ++ mW K GM mZ) q := fun q ⟨k, e, h⟩ => ⟨k, e, by rw [List.getElem?_append_left (List.getElem?_eq_some_iff.mp h).1]; exact h⟩
  have inr : ∀ q, zIn (mW K GM mZ) q → zIn (cW K GC cZ ++ mW K GM mZ) q := fun q ⟨k, e, h⟩ => ⟨(cW K GC cZ).length + k, e, by rw [List.getElem?_append_right (by omega), Nat.add_sub_cancel_left]; exact h⟩
  have F : lC l K GC GM (zIn (cW K GC cZ)) (zIn (mW K GM mZ)) o b L xs p s m c := ⟨X, hml, hX, hbl, hth, hfl, hC, hM, hdM, fun h => hdO o (inl o h) ho, fun h => hdO o (inr o h) ho, zIn_A hDC, zIn_A hDM, zIn_A hDO o ho⟩
  exact law_loop F hL hr hlocks (L + 1) 0 (by omega) (by omega) cZ mZ (fun _ => 0) H locs ls rel_start hP.left.left hP.left.right hP.right hS hl
theorem lw_notrace {l : Launch} (h : l.flags = flags0) : l.stackTraces = false := by
  unfold Launch.stackTraces
  rw [h]
  decide +kernel
set_option maxHeartbeats 4000000 in
theorem lw_walk (l : Launch) (hfl : l.stackTraces = false) (b : Addr) (xs : List Int32) : MetFree l x (headSpec (Jvm.Cond.code x code maxLocals ret :: tables_1) room_1) (lw_P b xs) (fun _ _ _ _ _ => True) lw_Q := by
  refine MetFree.of_bodyS (code := code) (maxLocals := maxLocals) (ret := ret) (by decide) ?_ ?_
  · intro args s m h hn
    obtain ⟨meth, c, h1, h2, h3, h4, h5, h6, -, -⟩ := Cond.code_spec hn (atoms_spec (ws := Jvm.Cond.code x code maxLocals ret :: tables_1) h _ List.mem_cons_self)
    exact ⟨meth, c, h1, h2, h3, h4, h5, h6⟩
  · intro p e s m args below meth c s₁ B hml0 hP _
    obtain ⟨rfl, hx, hbd, hgv⟩ := hP
    obtain ⟨scr, harrAt, hlist, hof, hsmall⟩ := hx
    obtain ⟨hcb, hkn, -, -⟩ := State.arrayAt?_spec harrAt
    have hown : s.vm.findClass R_law = some m.cls := findClass_of_methodNamed B.named
    have hts0 : ∀ c ∈ (Jvm.Cond.code x code maxLocals ret :: tables_1), c.before #[Value.ref b] s = true := atoms_spec (ws := Jvm.Cond.code x code maxLocals ret :: tables_1) B.pre
    have hts : ∀ w ∈ lw_tbl, w.before #[Value.ref b] s = true := k2_hts_sels lw_privs (fun w hw => hts0 w (List.mem_cons_of_mem _ hw)) lw_privs_ok
    have hml : c.maxLocals = 8 := B.maxLocals_eq (hts0 _ List.mem_cons_self)
    have X₀ : Stand p l e room_1 s m #[Value.ref b] below meth c s₁ [] 0 0 := Stand.of_body B
    have hh0 : s₁.heap = s.heap := by rw [B.state]; rfl
    have hsz : scr.slots.size = xs.length := by rw [← Array.length_toList, hlist, List.length_map]
    have hval : ∀ j : Nat, j < xs.length → scr.slots[j]? = some (.int (xs.getD j 0)) := fun j hj => by
      rw [← Array.getElem?_toList, hlist]
      simp [hj]
    have hbl : b < s.heap.size := (Array.getElem?_eq_some_iff.mp hcb).1
    have hX : va_X b xs.length (fun j => xs.getD j 0) s s.heap := ⟨scr, hcb, hof, hkn, hsz, hval⟩
    have K : W p l e room_1 s m #[Value.ref b] below meth c s₁.heap [] 0 0 (lw_Z below #[Value.ref b] s) (entryFrame m ([Value.ref b] : List Value).toArray 8) := by
      rw [hh0]
      exact whole_start l hfl hbd ⟨B.exec, B.bytes, B.returns, hml, hown, hts, hX, hbl, B.notSynchronized, hgv⟩
    obtain ⟨t, a1, o, b1, b2, b3⟩ := K s₁ rfl X₀
    exact ⟨t, o, a1, b1, b2, b3⟩
theorem lw_pre_spec {args : Array Value} {s : State} (h : (Jvm.Cond.and given_1 narrow_1).before args s = true) (hr : rest_1_c.before args s = true) : ∃ (b : Addr) (xs : List Int32), lw_P b xs args s := by
  have hs := flat_of_before _ h
  have hq := flat_of_before _ hr
  have hc : (Cond.count 1).before args s = true := hs _ (by decide +kernel)
  have harr : (Cond.arrayOf (.arg 0) .int).before args s = true := hs _ (by decide +kernel)
  have hle : (Cond.le (.length (.arg 0)) (.int 3072)).before args s = true := hs _ (by decide +kernel)
  have hlen : (Cond.isInt (.length (.arg 0))).before args s = true := hq _ (by decide +kernel)
  have hall : (Cond.all (.arg 0) (.isInt (.elem (.arg 0) (.index 0)))).before args s = true := hq _ (by decide +kernel)
  obtain ⟨b, xs, hb, hx⟩ := State.ints_of_pre rfl harr hlen hall
  have hsm : xs.length < 2 ^ 31 := hx.choose_spec.2.2.2
  have hev : (Term.length (.arg 0)).eval args s none [] s = some (.int xs.length.toInt32) := hx.length_eval hb
  have hv := Cond.le_ints hev (show (Term.int 3072).eval args s none [] s = some (.int 3072) from rfl)
  have hd : xs.length.toInt32 ≤ 3072 := by
    simpa [Cond.before, Cond.holds, hv] using hle
  have hN : xs.length ≤ 3072 := (Int32.ofNat_le_ofNat hsm (by decide)).mp (show Int32.ofNat xs.length ≤ Int32.ofNat 3072 from hd)
  exact ⟨b, xs, Cond.one_arg hc (show args[0]? = some (.ref b) from hb), hx, hN, h⟩
theorem lw_comes (l : Launch) (hfl : l.stackTraces = false) : Comes l x (Jvm.Cond.code x code maxLocals ret :: tables_1) room_1 (fun tb e args s => Calls_1 tb e args s ∧ rest_1 tb e args s ∧ Pre_1 tb e args s)
    (fun _ _ args s o t => lw_Q args s o t) := by
  intro p e ha hc hk s m args below hf hfit hheap happ hpre
  obtain ⟨b, xs, hP⟩ := lw_pre_spec hpre.2.2 hpre.2.1
  obtain ⟨k, o, h1, h2, h3, hQ⟩   := lw_walk l hfl b xs p e ha hc hk s m args below hf ((Spec.applies_iff_loose hf).mp happ).1 hP trivial
  exact ⟨k, o, h1, h2, h3, hQ⟩
theorem lw_frame {s t : State} {o : Outcome} {args : Array Value} (h : Framed s o t [] 601024 7293033) :
    Framed s o t (fieldLocs frame_1_writes args s ++ arrayLocs frame_1_arrays args s ++ staticLocs frame_1_statics s) 601024 7293033 := h
theorem lw_limb (L : Cond) (hL : ∀ (args : Array Value) (s t : State), L.after args s (.returned (some (.int 1))) t = true) :
    ArmFor flags0 classFile x code maxLocals ret World_1 tables_1 room_1 Calls_1 rest_1 Pre_1
      (fun tb e a s o t => postC L tb e a s o t ∧ Framed s o t (fieldLocs frame_1_writes a s ++ arrayLocs frame_1_arrays a s ++ staticLocs frame_1_statics s) 601024 7293033) := by
  intro l hfl _ _ p e ha hc hk s m args below hf hfit hheap happ hpre
  obtain ⟨k, o, h1, h2, h3, rfl, hF⟩ := lw_comes l (lw_notrace hfl) p e ha hc hk s m args below hf hfit hheap happ hpre
  exact ⟨k, _, h1, h2, h3, hL args s _, lw_frame hF⟩
theorem i_vc : Claimed_1_1 ∧ Claimed_1_2 := ⟨lw_limb limb_1_1 (fun args s t => by simp [limb_1_1, Cond.after, Cond.holds, Cond.value]), lw_limb limb_1_2 (fun args s t => Cond.after_iff.mpr (by
  first | (rw [show limb_1_2 = Cond.eq .result (.int 1) from rfl, Cond.eq_ints (x := 1) (y := 1) rfl rfl]; simp; done) | (simp [limb_1_2, Cond.value, Term.eval]; done)))⟩
