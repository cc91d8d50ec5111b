/-! the class: its state (Targets, Aspects, Memory, the latest clash), its world, reads and writes (by program: wip/gen/cls.py) -/
abbrev cTS : Type := (Nat → Int64) × (Nat → Int32) × (Nat → Nat) × (Nat → Nat) × (Nat → Nat) × (Nat → Int32) × (Nat)
abbrev cAS : Type := (Nat → Nat) × (Nat → Int32) × (Nat → Int32) × (Nat → Int32) × (Nat → Int32) × (Nat → Nat) × (Nat → Nat) × (Nat → Int32) × (Nat)
abbrev cMS : Type := (Nat → Int32) × (Nat → Int32) × (Nat → Int32) × (Nat → Int64) × (Nat → Int32) × (Nat → Nat) × (Int32)
abbrev cS : Type := cTS × cAS × cMS × (Nat → Int32)
abbrev cT_values (σ : cS) : Nat → Int64 := σ.1.1
def p_cT_values (σ : cS) (f : Nat → Int64) : cS := ((f, σ.1.2.1, σ.1.2.2.1, σ.1.2.2.2.1, σ.1.2.2.2.2.1, σ.1.2.2.2.2.2.1, σ.1.2.2.2.2.2.2), σ.2)
abbrev cT_providers (σ : cS) : Nat → Int32 := σ.1.2.1
def p_cT_providers (σ : cS) (f : Nat → Int32) : cS := ((σ.1.1, f, σ.1.2.2.1, σ.1.2.2.2.1, σ.1.2.2.2.2.1, σ.1.2.2.2.2.2.1, σ.1.2.2.2.2.2.2), σ.2)
abbrev cT_ends (σ : cS) : Nat → Nat := σ.1.2.2.1
def p_cT_ends (σ : cS) (f : Nat → Nat) : cS := ((σ.1.1, σ.1.2.1, f, σ.1.2.2.2.1, σ.1.2.2.2.2.1, σ.1.2.2.2.2.2.1, σ.1.2.2.2.2.2.2), σ.2)
abbrev cT_rows (σ : cS) : Nat → Nat := σ.1.2.2.2.1
def p_cT_rows (σ : cS) (f : Nat → Nat) : cS := ((σ.1.1, σ.1.2.1, σ.1.2.2.1, f, σ.1.2.2.2.2.1, σ.1.2.2.2.2.2.1, σ.1.2.2.2.2.2.2), σ.2)
abbrev cT_rowLengths (σ : cS) : Nat → Nat := σ.1.2.2.2.2.1
def p_cT_rowLengths (σ : cS) (f : Nat → Nat) : cS := ((σ.1.1, σ.1.2.1, σ.1.2.2.1, σ.1.2.2.2.1, f, σ.1.2.2.2.2.2.1, σ.1.2.2.2.2.2.2), σ.2)
abbrev cT_reached (σ : cS) : Nat → Int32 := σ.1.2.2.2.2.2.1
def p_cT_reached (σ : cS) (f : Nat → Int32) : cS := ((σ.1.1, σ.1.2.1, σ.1.2.2.1, σ.1.2.2.2.1, σ.1.2.2.2.2.1, f, σ.1.2.2.2.2.2.2), σ.2)
abbrev cT_opened (σ : cS) : Nat := σ.1.2.2.2.2.2.2
def p_cT_opened (σ : cS) (f : Nat) : cS := ((σ.1.1, σ.1.2.1, σ.1.2.2.1, σ.1.2.2.2.1, σ.1.2.2.2.2.1, σ.1.2.2.2.2.2.1, f), σ.2)
abbrev cA_kinds (σ : cS) : Nat → Nat := σ.2.1.1
def p_cA_kinds (σ : cS) (f : Nat → Nat) : cS := (σ.1, (f, σ.2.1.2.1, σ.2.1.2.2.1, σ.2.1.2.2.2.1, σ.2.1.2.2.2.2.1, σ.2.1.2.2.2.2.2.1, σ.2.1.2.2.2.2.2.2.1, σ.2.1.2.2.2.2.2.2.2.1, σ.2.1.2.2.2.2.2.2.2.2), σ.2.2)
abbrev cA_alongs (σ : cS) : Nat → Int32 := σ.2.1.2.1
def p_cA_alongs (σ : cS) (f : Nat → Int32) : cS := (σ.1, (σ.2.1.1, f, σ.2.1.2.2.1, σ.2.1.2.2.2.1, σ.2.1.2.2.2.2.1, σ.2.1.2.2.2.2.2.1, σ.2.1.2.2.2.2.2.2.1, σ.2.1.2.2.2.2.2.2.2.1, σ.2.1.2.2.2.2.2.2.2.2), σ.2.2)
abbrev cA_wants (σ : cS) : Nat → Int32 := σ.2.1.2.2.1
def p_cA_wants (σ : cS) (f : Nat → Int32) : cS := (σ.1, (σ.2.1.1, σ.2.1.2.1, f, σ.2.1.2.2.2.1, σ.2.1.2.2.2.2.1, σ.2.1.2.2.2.2.2.1, σ.2.1.2.2.2.2.2.2.1, σ.2.1.2.2.2.2.2.2.2.1, σ.2.1.2.2.2.2.2.2.2.2), σ.2.2)
abbrev cA_gives (σ : cS) : Nat → Int32 := σ.2.1.2.2.2.1
def p_cA_gives (σ : cS) (f : Nat → Int32) : cS := (σ.1, (σ.2.1.1, σ.2.1.2.1, σ.2.1.2.2.1, f, σ.2.1.2.2.2.2.1, σ.2.1.2.2.2.2.2.1, σ.2.1.2.2.2.2.2.2.1, σ.2.1.2.2.2.2.2.2.2.1, σ.2.1.2.2.2.2.2.2.2.2), σ.2.2)
abbrev cA_names (σ : cS) : Nat → Int32 := σ.2.1.2.2.2.2.1
def p_cA_names (σ : cS) (f : Nat → Int32) : cS := (σ.1, (σ.2.1.1, σ.2.1.2.1, σ.2.1.2.2.1, σ.2.1.2.2.2.1, f, σ.2.1.2.2.2.2.2.1, σ.2.1.2.2.2.2.2.2.1, σ.2.1.2.2.2.2.2.2.2.1, σ.2.1.2.2.2.2.2.2.2.2), σ.2.2)
abbrev cA_needs (σ : cS) : Nat → Nat := σ.2.1.2.2.2.2.2.1
def p_cA_needs (σ : cS) (f : Nat → Nat) : cS := (σ.1, (σ.2.1.1, σ.2.1.2.1, σ.2.1.2.2.1, σ.2.1.2.2.2.1, σ.2.1.2.2.2.2.1, f, σ.2.1.2.2.2.2.2.2.1, σ.2.1.2.2.2.2.2.2.2.1, σ.2.1.2.2.2.2.2.2.2.2), σ.2.2)
abbrev cA_needCounts (σ : cS) : Nat → Nat := σ.2.1.2.2.2.2.2.2.1
def p_cA_needCounts (σ : cS) (f : Nat → Nat) : cS := (σ.1, (σ.2.1.1, σ.2.1.2.1, σ.2.1.2.2.1, σ.2.1.2.2.2.1, σ.2.1.2.2.2.2.1, σ.2.1.2.2.2.2.2.1, f, σ.2.1.2.2.2.2.2.2.2.1, σ.2.1.2.2.2.2.2.2.2.2), σ.2.2)
abbrev cA_reached (σ : cS) : Nat → Int32 := σ.2.1.2.2.2.2.2.2.2.1
def p_cA_reached (σ : cS) (f : Nat → Int32) : cS := (σ.1, (σ.2.1.1, σ.2.1.2.1, σ.2.1.2.2.1, σ.2.1.2.2.2.1, σ.2.1.2.2.2.2.1, σ.2.1.2.2.2.2.2.1, σ.2.1.2.2.2.2.2.2.1, f, σ.2.1.2.2.2.2.2.2.2.2), σ.2.2)
abbrev cA_opened (σ : cS) : Nat := σ.2.1.2.2.2.2.2.2.2.2
def p_cA_opened (σ : cS) (f : Nat) : cS := (σ.1, (σ.2.1.1, σ.2.1.2.1, σ.2.1.2.2.1, σ.2.1.2.2.2.1, σ.2.1.2.2.2.2.1, σ.2.1.2.2.2.2.2.1, σ.2.1.2.2.2.2.2.2.1, σ.2.1.2.2.2.2.2.2.2.1, f), σ.2.2)
abbrev cM_doneSettings (σ : cS) : Nat → Int32 := σ.2.2.1.1
def p_cM_doneSettings (σ : cS) (f : Nat → Int32) : cS := (σ.1, σ.2.1, (f, σ.2.2.1.2.1, σ.2.2.1.2.2.1, σ.2.2.1.2.2.2.1, σ.2.2.1.2.2.2.2.1, σ.2.2.1.2.2.2.2.2.1, σ.2.2.1.2.2.2.2.2.2), σ.2.2.2)
abbrev cM_passedSettings (σ : cS) : Nat → Int32 := σ.2.2.1.2.1
def p_cM_passedSettings (σ : cS) (f : Nat → Int32) : cS := (σ.1, σ.2.1, (σ.2.2.1.1, f, σ.2.2.1.2.2.1, σ.2.2.1.2.2.2.1, σ.2.2.1.2.2.2.2.1, σ.2.2.1.2.2.2.2.2.1, σ.2.2.1.2.2.2.2.2.2), σ.2.2.2)
abbrev cM_doneTimes (σ : cS) : Nat → Int32 := σ.2.2.1.2.2.1
def p_cM_doneTimes (σ : cS) (f : Nat → Int32) : cS := (σ.1, σ.2.1, (σ.2.2.1.1, σ.2.2.1.2.1, f, σ.2.2.1.2.2.2.1, σ.2.2.1.2.2.2.2.1, σ.2.2.1.2.2.2.2.2.1, σ.2.2.1.2.2.2.2.2.2), σ.2.2.2)
abbrev cM_results (σ : cS) : Nat → Int64 := σ.2.2.1.2.2.2.1
def p_cM_results (σ : cS) (f : Nat → Int64) : cS := (σ.1, σ.2.1, (σ.2.2.1.1, σ.2.2.1.2.1, σ.2.2.1.2.2.1, f, σ.2.2.1.2.2.2.2.1, σ.2.2.1.2.2.2.2.2.1, σ.2.2.1.2.2.2.2.2.2), σ.2.2.2)
abbrev cM_makers (σ : cS) : Nat → Int32 := σ.2.2.1.2.2.2.2.1
def p_cM_makers (σ : cS) (f : Nat → Int32) : cS := (σ.1, σ.2.1, (σ.2.2.1.1, σ.2.2.1.2.1, σ.2.2.1.2.2.1, σ.2.2.1.2.2.2.1, f, σ.2.2.1.2.2.2.2.2.1, σ.2.2.1.2.2.2.2.2.2), σ.2.2.2)
abbrev cM_makerSettings (σ : cS) : Nat → Nat := σ.2.2.1.2.2.2.2.2.1
def p_cM_makerSettings (σ : cS) (f : Nat → Nat) : cS := (σ.1, σ.2.1, (σ.2.2.1.1, σ.2.2.1.2.1, σ.2.2.1.2.2.1, σ.2.2.1.2.2.2.1, σ.2.2.1.2.2.2.2.1, f, σ.2.2.1.2.2.2.2.2.2), σ.2.2.2)
abbrev cM_nowDone (σ : cS) : Int32 := σ.2.2.1.2.2.2.2.2.2
def p_cM_nowDone (σ : cS) (f : Int32) : cS := (σ.1, σ.2.1, (σ.2.2.1.1, σ.2.2.1.2.1, σ.2.2.1.2.2.1, σ.2.2.1.2.2.2.1, σ.2.2.1.2.2.2.2.1, σ.2.2.1.2.2.2.2.2.1, f), σ.2.2.2)
abbrev cW_clash (σ : cS) : Nat → Int32 := σ.2.2.2
def p_cW_clash (σ : cS) (f : Nat → Int32) : cS := (σ.1, σ.2.1, σ.2.2.1, f)
def cW (K : zK) (G : Nat → Nat) (σ : cS) : va_W := [
  (G 0, .inr (3, [.ref (G 1), .ref (G 2), .ref (G 3), .ref (G 4)])),
  (G 1, .inr (0, [.ref (G 5), .ref (G 6), .ref (G 7), .ref (G 8), .ref (G 9), .ref (G 10), .int (nI (cT_opened σ))])),
  (G 2, .inr (1, [.ref (G 11), .ref (G 12), .ref (G 13), .ref (G 14), .ref (G 15), .ref (G 16), .ref (G 17), .ref (G 18), .int (nI (cA_opened σ))])),
  (G 3, .inr (2, [.ref (G 19), .ref (G 20), .ref (G 21), .ref (G 22), .ref (G 23), .ref (G 24), .int (cM_nowDone σ)])),
  (G 4, .inl (K.2.1, 5, .inl (cW_clash σ))),
  (G 5, .inl (K.2.2.1, 20, .inr (.inl (cT_values σ)))),
  (G 6, .inl (K.2.1, 20, .inl (cT_providers σ))),
  (G 7, .inl (K.2.1, 20, .inl (fun j => nI ((cT_ends σ) j)))),
  (G 8, .inl (K.2.1, 240, .inl (fun j => nI ((cT_rows σ) j)))),
  (G 9, .inl (K.2.1, 60, .inl (fun j => nI ((cT_rowLengths σ) j)))),
  (G 10, .inl (K.2.1, 20, .inl (cT_reached σ))),
  (G 11, .inl (K.2.1, 8, .inl (fun j => nI ((cA_kinds σ) j)))),
  (G 12, .inl (K.2.1, 8, .inl (cA_alongs σ))),
  (G 13, .inl (K.2.1, 8, .inl (cA_wants σ))),
  (G 14, .inl (K.2.1, 8, .inl (cA_gives σ))),
  (G 15, .inl (K.2.1, 8, .inl (cA_names σ))),
  (G 16, .inl (K.2.1, 24, .inl (fun j => nI ((cA_needs σ) j)))),
  (G 17, .inl (K.2.1, 8, .inl (fun j => nI ((cA_needCounts σ) j)))),
  (G 18, .inl (K.2.1, 8, .inl (cA_reached σ))),
  (G 19, .inl (K.2.1, 160, .inl (cM_doneSettings σ))),
  (G 20, .inl (K.2.1, 160, .inl (cM_passedSettings σ))),
  (G 21, .inl (K.2.1, 160, .inl (cM_doneTimes σ))),
  (G 22, .inl (K.2.2.1, 2560, .inr (.inl (cM_results σ)))),
  (G 23, .inl (K.2.1, 200, .inl (cM_makers σ))),
  (G 24, .inl (K.2.1, 200, .inl (fun j => nI ((cM_makerSettings σ) j))))]
section ZC
variable {p : Program} {l : Launch} {e : Env} {R : Room} {s : State} {m : MethodId} {args : Array Value} {below : List Frame} {meth : Method} {c : Code} {H : Heap} {locs : List Loc} {cells slots : Nat} {Q : State → Prop}
variable {K : zK} {cc : ByteArray} {pc : Nat} {ls : Array Slot} {rest : List Value} {A : Nat → Prop} {H0 : Heap} {G : Nat → Nat}
theorem g_cT_values {σ : cS} (X : zFx K zR_T cc p s m args c) (hP : va_P K.1 zcl (cW K G σ) H) (hdg : decode cc pc = .ok (.getfield 9, 3)) (kk : W p l e R s m args below meth c H locs cells slots Q (F0 m (pc + 3) ls (.ref (G 5) :: rest))) : W p l e R s m args below meth c H locs cells slots Q (F0 m pc ls (.ref (G 1) :: rest)) :=
  z_get (N := 7) (ci := 0) (q0 := 1) X zin_T hP rfl rfl 0 (by decide) zw_28 rfl hdg kk
theorem l_cT_values {σ : cS} {i : Nat} (X : zFx K zR_T cc p s m args c) (hP : va_P K.1 zcl (cW K G σ) H) (hi : i < 20) (hdg : decode cc pc = .ok (.laload, 1)) (kk : W p l e R s m args below meth c H locs cells slots Q (F0 m (pc + 1) ls (.long (cT_values σ i) :: rest))) : W p l e R s m args below meth c H locs cells slots Q (F0 m pc ls (.int (nI i) :: .ref (G 5) :: rest)) :=
  z_lald (q0 := 5) X hP rfl hi (by decide) hdg kk
theorem s_cT_values {σ : cS} {i : Nat} {x : Int64} (X : zFx K zR_T cc p s m args c) (hD : ∀ σ, va_D A (cW K G σ)) (hP : va_P K.1 zcl (cW K G σ) H) (hS : va_S A H0 H locs) (hi : i < 20) (hdg : decode cc pc = .ok (.lastore, 1)) (kk : ∀ (H1 : Heap) (locs1 : List Loc), va_P K.1 zcl (cW K G (p_cT_values σ (vp_updL (cT_values σ) i x))) H1 → va_S A H0 H1 locs1 → W p l e R s m args below meth c H1 locs1 cells slots Q (F0 m (pc + 1) ls rest)) : W p l e R s m args below meth c H locs cells slots Q (F0 m pc ls (.long x :: .int (nI i) :: .ref (G 5) :: rest)) :=
  z_last (q0 := 5) X hP (hD σ) hS rfl hi (by decide) rfl hdg kk
theorem g_cT_providers {σ : cS} (X : zFx K zR_T cc p s m args c) (hP : va_P K.1 zcl (cW K G σ) H) (hdg : decode cc pc = .ok (.getfield 15, 3)) (kk : W p l e R s m args below meth c H locs cells slots Q (F0 m (pc + 3) ls (.ref (G 6) :: rest))) : W p l e R s m args below meth c H locs cells slots Q (F0 m pc ls (.ref (G 1) :: rest)) :=
  z_get (N := 7) (ci := 0) (q0 := 1) X zin_T hP rfl rfl 1 (by decide) zw_29 rfl hdg kk
theorem l_cT_providers {σ : cS} {i : Nat} (X : zFx K zR_T cc p s m args c) (hP : va_P K.1 zcl (cW K G σ) H) (hi : i < 20) (hdg : decode cc pc = .ok (.iaload, 1)) (kk : W p l e R s m args below meth c H locs cells slots Q (F0 m (pc + 1) ls (.int (cT_providers σ i) :: rest))) : W p l e R s m args below meth c H locs cells slots Q (F0 m pc ls (.int (nI i) :: .ref (G 6) :: rest)) :=
  z_iald (q0 := 6) X hP rfl hi (by decide) rfl hdg kk
theorem s_cT_providers {σ : cS} {i : Nat} {x : Int32} (X : zFx K zR_T cc p s m args c) (hD : ∀ σ, va_D A (cW K G σ)) (hP : va_P K.1 zcl (cW K G σ) H) (hS : va_S A H0 H locs) (hi : i < 20) (hdg : decode cc pc = .ok (.iastore, 1)) (kk : ∀ (H1 : Heap) (locs1 : List Loc), va_P K.1 zcl (cW K G (p_cT_providers σ (upd (cT_providers σ) i x))) H1 → va_S A H0 H1 locs1 → W p l e R s m args below meth c H1 locs1 cells slots Q (F0 m (pc + 1) ls rest)) : W p l e R s m args below meth c H locs cells slots Q (F0 m pc ls (.int x :: .int (nI i) :: .ref (G 6) :: rest)) :=
  z_iast (q0 := 6) X hP (hD σ) hS rfl hi (by decide) rfl rfl hdg kk
theorem g_cT_ends {σ : cS} (X : zFx K zR_T cc p s m args c) (hP : va_P K.1 zcl (cW K G σ) H) (hdg : decode cc pc = .ok (.getfield 19, 3)) (kk : W p l e R s m args below meth c H locs cells slots Q (F0 m (pc + 3) ls (.ref (G 7) :: rest))) : W p l e R s m args below meth c H locs cells slots Q (F0 m pc ls (.ref (G 1) :: rest)) :=
  z_get (N := 7) (ci := 0) (q0 := 1) X zin_T hP rfl rfl 2 (by decide) zw_30 rfl hdg kk
theorem l_cT_ends {σ : cS} {i : Nat} (X : zFx K zR_T cc p s m args c) (hP : va_P K.1 zcl (cW K G σ) H) (hi : i < 20) (hdg : decode cc pc = .ok (.iaload, 1)) (kk : W p l e R s m args below meth c H locs cells slots Q (F0 m (pc + 1) ls (.int (nI (cT_ends σ i)) :: rest))) : W p l e R s m args below meth c H locs cells slots Q (F0 m pc ls (.int (nI i) :: .ref (G 7) :: rest)) :=
  z_iald (q0 := 7) X hP rfl hi (by decide) rfl hdg kk
theorem s_cT_ends {σ : cS} {i x : Nat} (X : zFx K zR_T cc p s m args c) (hD : ∀ σ, va_D A (cW K G σ)) (hP : va_P K.1 zcl (cW K G σ) H) (hS : va_S A H0 H locs) (hi : i < 20) (hdg : decode cc pc = .ok (.iastore, 1)) (kk : ∀ (H1 : Heap) (locs1 : List Loc), va_P K.1 zcl (cW K G (p_cT_ends σ (upN (cT_ends σ) i x))) H1 → va_S A H0 H1 locs1 → W p l e R s m args below meth c H1 locs1 cells slots Q (F0 m (pc + 1) ls rest)) : W p l e R s m args below meth c H locs cells slots Q (F0 m pc ls (.int (nI x) :: .int (nI i) :: .ref (G 7) :: rest)) :=
  z_iast (q0 := 7) X hP (hD σ) hS rfl hi (by decide) (upN_nI _ _ _) rfl hdg kk
theorem g_cT_rows {σ : cS} (X : zFx K zR_T cc p s m args c) (hP : va_P K.1 zcl (cW K G σ) H) (hdg : decode cc pc = .ok (.getfield 22, 3)) (kk : W p l e R s m args below meth c H locs cells slots Q (F0 m (pc + 3) ls (.ref (G 8) :: rest))) : W p l e R s m args below meth c H locs cells slots Q (F0 m pc ls (.ref (G 1) :: rest)) :=
  z_get (N := 7) (ci := 0) (q0 := 1) X zin_T hP rfl rfl 3 (by decide) zw_31 rfl hdg kk
theorem l_cT_rows {σ : cS} {i : Nat} (X : zFx K zR_T cc p s m args c) (hP : va_P K.1 zcl (cW K G σ) H) (hi : i < 240) (hdg : decode cc pc = .ok (.iaload, 1)) (kk : W p l e R s m args below meth c H locs cells slots Q (F0 m (pc + 1) ls (.int (nI (cT_rows σ i)) :: rest))) : W p l e R s m args below meth c H locs cells slots Q (F0 m pc ls (.int (nI i) :: .ref (G 8) :: rest)) :=
  z_iald (q0 := 8) X hP rfl hi (by decide) rfl hdg kk
theorem s_cT_rows {σ : cS} {i x : Nat} (X : zFx K zR_T cc p s m args c) (hD : ∀ σ, va_D A (cW K G σ)) (hP : va_P K.1 zcl (cW K G σ) H) (hS : va_S A H0 H locs) (hi : i < 240) (hdg : decode cc pc = .ok (.iastore, 1)) (kk : ∀ (H1 : Heap) (locs1 : List Loc), va_P K.1 zcl (cW K G (p_cT_rows σ (upN (cT_rows σ) i x))) H1 → va_S A H0 H1 locs1 → W p l e R s m args below meth c H1 locs1 cells slots Q (F0 m (pc + 1) ls rest)) : W p l e R s m args below meth c H locs cells slots Q (F0 m pc ls (.int (nI x) :: .int (nI i) :: .ref (G 8) :: rest)) :=
  z_iast (q0 := 8) X hP (hD σ) hS rfl hi (by decide) (upN_nI _ _ _) rfl hdg kk
theorem g_cT_rowLengths {σ : cS} (X : zFx K zR_T cc p s m args c) (hP : va_P K.1 zcl (cW K G σ) H) (hdg : decode cc pc = .ok (.getfield 25, 3)) (kk : W p l e R s m args below meth c H locs cells slots Q (F0 m (pc + 3) ls (.ref (G 9) :: rest))) : W p l e R s m args below meth c H locs cells slots Q (F0 m pc ls (.ref (G 1) :: rest)) :=
  z_get (N := 7) (ci := 0) (q0 := 1) X zin_T hP rfl rfl 4 (by decide) zw_32 rfl hdg kk
theorem l_cT_rowLengths {σ : cS} {i : Nat} (X : zFx K zR_T cc p s m args c) (hP : va_P K.1 zcl (cW K G σ) H) (hi : i < 60) (hdg : decode cc pc = .ok (.iaload, 1)) (kk : W p l e R s m args below meth c H locs cells slots Q (F0 m (pc + 1) ls (.int (nI (cT_rowLengths σ i)) :: rest))) : W p l e R s m args below meth c H locs cells slots Q (F0 m pc ls (.int (nI i) :: .ref (G 9) :: rest)) :=
  z_iald (q0 := 9) X hP rfl hi (by decide) rfl hdg kk
theorem s_cT_rowLengths {σ : cS} {i x : Nat} (X : zFx K zR_T cc p s m args c) (hD : ∀ σ, va_D A (cW K G σ)) (hP : va_P K.1 zcl (cW K G σ) H) (hS : va_S A H0 H locs) (hi : i < 60) (hdg : decode cc pc = .ok (.iastore, 1)) (kk : ∀ (H1 : Heap) (locs1 : List Loc), va_P K.1 zcl (cW K G (p_cT_rowLengths σ (upN (cT_rowLengths σ) i x))) H1 → va_S A H0 H1 locs1 → W p l e R s m args below meth c H1 locs1 cells slots Q (F0 m (pc + 1) ls rest)) : W p l e R s m args below meth c H locs cells slots Q (F0 m pc ls (.int (nI x) :: .int (nI i) :: .ref (G 9) :: rest)) :=
  z_iast (q0 := 9) X hP (hD σ) hS rfl hi (by decide) (upN_nI _ _ _) rfl hdg kk
theorem g_cT_reached {σ : cS} (X : zFx K zR_T cc p s m args c) (hP : va_P K.1 zcl (cW K G σ) H) (hdg : decode cc pc = .ok (.getfield 28, 3)) (kk : W p l e R s m args below meth c H locs cells slots Q (F0 m (pc + 3) ls (.ref (G 10) :: rest))) : W p l e R s m args below meth c H locs cells slots Q (F0 m pc ls (.ref (G 1) :: rest)) :=
  z_get (N := 7) (ci := 0) (q0 := 1) X zin_T hP rfl rfl 5 (by decide) zw_33 rfl hdg kk
theorem l_cT_reached {σ : cS} {i : Nat} (X : zFx K zR_T cc p s m args c) (hP : va_P K.1 zcl (cW K G σ) H) (hi : i < 20) (hdg : decode cc pc = .ok (.iaload, 1)) (kk : W p l e R s m args below meth c H locs cells slots Q (F0 m (pc + 1) ls (.int (cT_reached σ i) :: rest))) : W p l e R s m args below meth c H locs cells slots Q (F0 m pc ls (.int (nI i) :: .ref (G 10) :: rest)) :=
  z_iald (q0 := 10) X hP rfl hi (by decide) rfl hdg kk
theorem s_cT_reached {σ : cS} {i : Nat} {x : Int32} (X : zFx K zR_T cc p s m args c) (hD : ∀ σ, va_D A (cW K G σ)) (hP : va_P K.1 zcl (cW K G σ) H) (hS : va_S A H0 H locs) (hi : i < 20) (hdg : decode cc pc = .ok (.iastore, 1)) (kk : ∀ (H1 : Heap) (locs1 : List Loc), va_P K.1 zcl (cW K G (p_cT_reached σ (upd (cT_reached σ) i x))) H1 → va_S A H0 H1 locs1 → W p l e R s m args below meth c H1 locs1 cells slots Q (F0 m (pc + 1) ls rest)) : W p l e R s m args below meth c H locs cells slots Q (F0 m pc ls (.int x :: .int (nI i) :: .ref (G 10) :: rest)) :=
  z_iast (q0 := 10) X hP (hD σ) hS rfl hi (by decide) rfl rfl hdg kk
theorem g_cT_opened {σ : cS} (X : zFx K zR_T cc p s m args c) (hP : va_P K.1 zcl (cW K G σ) H) (hdg : decode cc pc = .ok (.getfield 31, 3)) (kk : W p l e R s m args below meth c H locs cells slots Q (F0 m (pc + 3) ls (.int (nI (cT_opened σ)) :: rest))) : W p l e R s m args below meth c H locs cells slots Q (F0 m pc ls (.ref (G 1) :: rest)) :=
  z_get (N := 7) (ci := 0) (q0 := 1) X zin_T hP rfl rfl 6 (by decide) zw_34 rfl hdg kk
theorem s_cT_opened {σ : cS} {x : Nat} (X : zFx K zR_T cc p s m args c) (hD : ∀ σ, va_D A (cW K G σ)) (hP : va_P K.1 zcl (cW K G σ) H) (hS : va_S A H0 H locs) (hdg : decode cc pc = .ok (.putfield 31, 3)) (kk : ∀ (H1 : Heap) (locs1 : List Loc), va_P K.1 zcl (cW K G (p_cT_opened σ x)) H1 → va_S A H0 H1 locs1 → W p l e R s m args below meth c H1 locs1 cells slots Q (F0 m (pc + 3) ls rest)) : W p l e R s m args below meth c H locs cells slots Q (F0 m pc ls (.int (nI x) :: .ref (G 1) :: rest)) :=
  z_put (N := 7) (ci := 0) (q0 := 1) X zt_T zin_T zty_T znm_T hP (hD σ) hS rfl rfl 6 (by decide) zw_34 rfl rfl rfl (Nat.le_of_ble_eq_true rfl) rfl hdg kk
theorem g_cA_kinds {σ : cS} (X : zFx K zR_A cc p s m args c) (hP : va_P K.1 zcl (cW K G σ) H) (hdg : decode cc pc = .ok (.getfield 9, 3)) (kk : W p l e R s m args below meth c H locs cells slots Q (F0 m (pc + 3) ls (.ref (G 11) :: rest))) : W p l e R s m args below meth c H locs cells slots Q (F0 m pc ls (.ref (G 2) :: rest)) :=
  z_get (N := 9) (ci := 1) (q0 := 2) X zin_A hP rfl rfl 0 (by decide) zw_58 rfl hdg kk
theorem l_cA_kinds {σ : cS} {i : Nat} (X : zFx K zR_A cc p s m args c) (hP : va_P K.1 zcl (cW K G σ) H) (hi : i < 8) (hdg : decode cc pc = .ok (.iaload, 1)) (kk : W p l e R s m args below meth c H locs cells slots Q (F0 m (pc + 1) ls (.int (nI (cA_kinds σ i)) :: rest))) : W p l e R s m args below meth c H locs cells slots Q (F0 m pc ls (.int (nI i) :: .ref (G 11) :: rest)) :=
  z_iald (q0 := 11) X hP rfl hi (by decide) rfl hdg kk
theorem s_cA_kinds {σ : cS} {i x : Nat} (X : zFx K zR_A cc p s m args c) (hD : ∀ σ, va_D A (cW K G σ)) (hP : va_P K.1 zcl (cW K G σ) H) (hS : va_S A H0 H locs) (hi : i < 8) (hdg : decode cc pc = .ok (.iastore, 1)) (kk : ∀ (H1 : Heap) (locs1 : List Loc), va_P K.1 zcl (cW K G (p_cA_kinds σ (upN (cA_kinds σ) i x))) H1 → va_S A H0 H1 locs1 → W p l e R s m args below meth c H1 locs1 cells slots Q (F0 m (pc + 1) ls rest)) : W p l e R s m args below meth c H locs cells slots Q (F0 m pc ls (.int (nI x) :: .int (nI i) :: .ref (G 11) :: rest)) :=
  z_iast (q0 := 11) X hP (hD σ) hS rfl hi (by decide) (upN_nI _ _ _) rfl hdg kk
theorem g_cA_alongs {σ : cS} (X : zFx K zR_A cc p s m args c) (hP : va_P K.1 zcl (cW K G σ) H) (hdg : decode cc pc = .ok (.getfield 15, 3)) (kk : W p l e R s m args below meth c H locs cells slots Q (F0 m (pc + 3) ls (.ref (G 12) :: rest))) : W p l e R s m args below meth c H locs cells slots Q (F0 m pc ls (.ref (G 2) :: rest)) :=
  z_get (N := 9) (ci := 1) (q0 := 2) X zin_A hP rfl rfl 1 (by decide) zw_59 rfl hdg kk
theorem l_cA_alongs {σ : cS} {i : Nat} (X : zFx K zR_A cc p s m args c) (hP : va_P K.1 zcl (cW K G σ) H) (hi : i < 8) (hdg : decode cc pc = .ok (.iaload, 1)) (kk : W p l e R s m args below meth c H locs cells slots Q (F0 m (pc + 1) ls (.int (cA_alongs σ i) :: rest))) : W p l e R s m args below meth c H locs cells slots Q (F0 m pc ls (.int (nI i) :: .ref (G 12) :: rest)) :=
  z_iald (q0 := 12) X hP rfl hi (by decide) rfl hdg kk
theorem s_cA_alongs {σ : cS} {i : Nat} {x : Int32} (X : zFx K zR_A cc p s m args c) (hD : ∀ σ, va_D A (cW K G σ)) (hP : va_P K.1 zcl (cW K G σ) H) (hS : va_S A H0 H locs) (hi : i < 8) (hdg : decode cc pc = .ok (.iastore, 1)) (kk : ∀ (H1 : Heap) (locs1 : List Loc), va_P K.1 zcl (cW K G (p_cA_alongs σ (upd (cA_alongs σ) i x))) H1 → va_S A H0 H1 locs1 → W p l e R s m args below meth c H1 locs1 cells slots Q (F0 m (pc + 1) ls rest)) : W p l e R s m args below meth c H locs cells slots Q (F0 m pc ls (.int x :: .int (nI i) :: .ref (G 12) :: rest)) :=
  z_iast (q0 := 12) X hP (hD σ) hS rfl hi (by decide) rfl rfl hdg kk
theorem g_cA_wants {σ : cS} (X : zFx K zR_A cc p s m args c) (hP : va_P K.1 zcl (cW K G σ) H) (hdg : decode cc pc = .ok (.getfield 18, 3)) (kk : W p l e R s m args below meth c H locs cells slots Q (F0 m (pc + 3) ls (.ref (G 13) :: rest))) : W p l e R s m args below meth c H locs cells slots Q (F0 m pc ls (.ref (G 2) :: rest)) :=
  z_get (N := 9) (ci := 1) (q0 := 2) X zin_A hP rfl rfl 2 (by decide) zw_60 rfl hdg kk
theorem l_cA_wants {σ : cS} {i : Nat} (X : zFx K zR_A cc p s m args c) (hP : va_P K.1 zcl (cW K G σ) H) (hi : i < 8) (hdg : decode cc pc = .ok (.iaload, 1)) (kk : W p l e R s m args below meth c H locs cells slots Q (F0 m (pc + 1) ls (.int (cA_wants σ i) :: rest))) : W p l e R s m args below meth c H locs cells slots Q (F0 m pc ls (.int (nI i) :: .ref (G 13) :: rest)) :=
  z_iald (q0 := 13) X hP rfl hi (by decide) rfl hdg kk
theorem s_cA_wants {σ : cS} {i : Nat} {x : Int32} (X : zFx K zR_A cc p s m args c) (hD : ∀ σ, va_D A (cW K G σ)) (hP : va_P K.1 zcl (cW K G σ) H) (hS : va_S A H0 H locs) (hi : i < 8) (hdg : decode cc pc = .ok (.iastore, 1)) (kk : ∀ (H1 : Heap) (locs1 : List Loc), va_P K.1 zcl (cW K G (p_cA_wants σ (upd (cA_wants σ) i x))) H1 → va_S A H0 H1 locs1 → W p l e R s m args below meth c H1 locs1 cells slots Q (F0 m (pc + 1) ls rest)) : W p l e R s m args below meth c H locs cells slots Q (F0 m pc ls (.int x :: .int (nI i) :: .ref (G 13) :: rest)) :=
  z_iast (q0 := 13) X hP (hD σ) hS rfl hi (by decide) rfl rfl hdg kk
theorem g_cA_gives {σ : cS} (X : zFx K zR_A cc p s m args c) (hP : va_P K.1 zcl (cW K G σ) H) (hdg : decode cc pc = .ok (.getfield 21, 3)) (kk : W p l e R s m args below meth c H locs cells slots Q (F0 m (pc + 3) ls (.ref (G 14) :: rest))) : W p l e R s m args below meth c H locs cells slots Q (F0 m pc ls (.ref (G 2) :: rest)) :=
  z_get (N := 9) (ci := 1) (q0 := 2) X zin_A hP rfl rfl 3 (by decide) zw_61 rfl hdg kk
theorem l_cA_gives {σ : cS} {i : Nat} (X : zFx K zR_A cc p s m args c) (hP : va_P K.1 zcl (cW K G σ) H) (hi : i < 8) (hdg : decode cc pc = .ok (.iaload, 1)) (kk : W p l e R s m args below meth c H locs cells slots Q (F0 m (pc + 1) ls (.int (cA_gives σ i) :: rest))) : W p l e R s m args below meth c H locs cells slots Q (F0 m pc ls (.int (nI i) :: .ref (G 14) :: rest)) :=
  z_iald (q0 := 14) X hP rfl hi (by decide) rfl hdg kk
theorem s_cA_gives {σ : cS} {i : Nat} {x : Int32} (X : zFx K zR_A cc p s m args c) (hD : ∀ σ, va_D A (cW K G σ)) (hP : va_P K.1 zcl (cW K G σ) H) (hS : va_S A H0 H locs) (hi : i < 8) (hdg : decode cc pc = .ok (.iastore, 1)) (kk : ∀ (H1 : Heap) (locs1 : List Loc), va_P K.1 zcl (cW K G (p_cA_gives σ (upd (cA_gives σ) i x))) H1 → va_S A H0 H1 locs1 → W p l e R s m args below meth c H1 locs1 cells slots Q (F0 m (pc + 1) ls rest)) : W p l e R s m args below meth c H locs cells slots Q (F0 m pc ls (.int x :: .int (nI i) :: .ref (G 14) :: rest)) :=
  z_iast (q0 := 14) X hP (hD σ) hS rfl hi (by decide) rfl rfl hdg kk
theorem g_cA_names {σ : cS} (X : zFx K zR_A cc p s m args c) (hP : va_P K.1 zcl (cW K G σ) H) (hdg : decode cc pc = .ok (.getfield 24, 3)) (kk : W p l e R s m args below meth c H locs cells slots Q (F0 m (pc + 3) ls (.ref (G 15) :: rest))) : W p l e R s m args below meth c H locs cells slots Q (F0 m pc ls (.ref (G 2) :: rest)) :=
  z_get (N := 9) (ci := 1) (q0 := 2) X zin_A hP rfl rfl 4 (by decide) zw_62 rfl hdg kk
theorem l_cA_names {σ : cS} {i : Nat} (X : zFx K zR_A cc p s m args c) (hP : va_P K.1 zcl (cW K G σ) H) (hi : i < 8) (hdg : decode cc pc = .ok (.iaload, 1)) (kk : W p l e R s m args below meth c H locs cells slots Q (F0 m (pc + 1) ls (.int (cA_names σ i) :: rest))) : W p l e R s m args below meth c H locs cells slots Q (F0 m pc ls (.int (nI i) :: .ref (G 15) :: rest)) :=
  z_iald (q0 := 15) X hP rfl hi (by decide) rfl hdg kk
theorem s_cA_names {σ : cS} {i : Nat} {x : Int32} (X : zFx K zR_A cc p s m args c) (hD : ∀ σ, va_D A (cW K G σ)) (hP : va_P K.1 zcl (cW K G σ) H) (hS : va_S A H0 H locs) (hi : i < 8) (hdg : decode cc pc = .ok (.iastore, 1)) (kk : ∀ (H1 : Heap) (locs1 : List Loc), va_P K.1 zcl (cW K G (p_cA_names σ (upd (cA_names σ) i x))) H1 → va_S A H0 H1 locs1 → W p l e R s m args below meth c H1 locs1 cells slots Q (F0 m (pc + 1) ls rest)) : W p l e R s m args below meth c H locs cells slots Q (F0 m pc ls (.int x :: .int (nI i) :: .ref (G 15) :: rest)) :=
  z_iast (q0 := 15) X hP (hD σ) hS rfl hi (by decide) rfl rfl hdg kk
theorem g_cA_needs {σ : cS} (X : zFx K zR_A cc p s m args c) (hP : va_P K.1 zcl (cW K G σ) H) (hdg : decode cc pc = .ok (.getfield 27, 3)) (kk : W p l e R s m args below meth c H locs cells slots Q (F0 m (pc + 3) ls (.ref (G 16) :: rest))) : W p l e R s m args below meth c H locs cells slots Q (F0 m pc ls (.ref (G 2) :: rest)) :=
  z_get (N := 9) (ci := 1) (q0 := 2) X zin_A hP rfl rfl 5 (by decide) zw_63 rfl hdg kk
theorem l_cA_needs {σ : cS} {i : Nat} (X : zFx K zR_A cc p s m args c) (hP : va_P K.1 zcl (cW K G σ) H) (hi : i < 24) (hdg : decode cc pc = .ok (.iaload, 1)) (kk : W p l e R s m args below meth c H locs cells slots Q (F0 m (pc + 1) ls (.int (nI (cA_needs σ i)) :: rest))) : W p l e R s m args below meth c H locs cells slots Q (F0 m pc ls (.int (nI i) :: .ref (G 16) :: rest)) :=
  z_iald (q0 := 16) X hP rfl hi (by decide) rfl hdg kk
theorem s_cA_needs {σ : cS} {i x : Nat} (X : zFx K zR_A cc p s m args c) (hD : ∀ σ, va_D A (cW K G σ)) (hP : va_P K.1 zcl (cW K G σ) H) (hS : va_S A H0 H locs) (hi : i < 24) (hdg : decode cc pc = .ok (.iastore, 1)) (kk : ∀ (H1 : Heap) (locs1 : List Loc), va_P K.1 zcl (cW K G (p_cA_needs σ (upN (cA_needs σ) i x))) H1 → va_S A H0 H1 locs1 → W p l e R s m args below meth c H1 locs1 cells slots Q (F0 m (pc + 1) ls rest)) : W p l e R s m args below meth c H locs cells slots Q (F0 m pc ls (.int (nI x) :: .int (nI i) :: .ref (G 16) :: rest)) :=
  z_iast (q0 := 16) X hP (hD σ) hS rfl hi (by decide) (upN_nI _ _ _) rfl hdg kk
theorem g_cA_needCounts {σ : cS} (X : zFx K zR_A cc p s m args c) (hP : va_P K.1 zcl (cW K G σ) H) (hdg : decode cc pc = .ok (.getfield 30, 3)) (kk : W p l e R s m args below meth c H locs cells slots Q (F0 m (pc + 3) ls (.ref (G 17) :: rest))) : W p l e R s m args below meth c H locs cells slots Q (F0 m pc ls (.ref (G 2) :: rest)) :=
  z_get (N := 9) (ci := 1) (q0 := 2) X zin_A hP rfl rfl 6 (by decide) zw_64 rfl hdg kk
theorem l_cA_needCounts {σ : cS} {i : Nat} (X : zFx K zR_A cc p s m args c) (hP : va_P K.1 zcl (cW K G σ) H) (hi : i < 8) (hdg : decode cc pc = .ok (.iaload, 1)) (kk : W p l e R s m args below meth c H locs cells slots Q (F0 m (pc + 1) ls (.int (nI (cA_needCounts σ i)) :: rest))) : W p l e R s m args below meth c H locs cells slots Q (F0 m pc ls (.int (nI i) :: .ref (G 17) :: rest)) :=
  z_iald (q0 := 17) X hP rfl hi (by decide) rfl hdg kk
theorem s_cA_needCounts {σ : cS} {i x : Nat} (X : zFx K zR_A cc p s m args c) (hD : ∀ σ, va_D A (cW K G σ)) (hP : va_P K.1 zcl (cW K G σ) H) (hS : va_S A H0 H locs) (hi : i < 8) (hdg : decode cc pc = .ok (.iastore, 1)) (kk : ∀ (H1 : Heap) (locs1 : List Loc), va_P K.1 zcl (cW K G (p_cA_needCounts σ (upN (cA_needCounts σ) i x))) H1 → va_S A H0 H1 locs1 → W p l e R s m args below meth c H1 locs1 cells slots Q (F0 m (pc + 1) ls rest)) : W p l e R s m args below meth c H locs cells slots Q (F0 m pc ls (.int (nI x) :: .int (nI i) :: .ref (G 17) :: rest)) :=
  z_iast (q0 := 17) X hP (hD σ) hS rfl hi (by decide) (upN_nI _ _ _) rfl hdg kk
theorem g_cA_reached {σ : cS} (X : zFx K zR_A cc p s m args c) (hP : va_P K.1 zcl (cW K G σ) H) (hdg : decode cc pc = .ok (.getfield 33, 3)) (kk : W p l e R s m args below meth c H locs cells slots Q (F0 m (pc + 3) ls (.ref (G 18) :: rest))) : W p l e R s m args below meth c H locs cells slots Q (F0 m pc ls (.ref (G 2) :: rest)) :=
  z_get (N := 9) (ci := 1) (q0 := 2) X zin_A hP rfl rfl 7 (by decide) zw_65 rfl hdg kk
theorem l_cA_reached {σ : cS} {i : Nat} (X : zFx K zR_A cc p s m args c) (hP : va_P K.1 zcl (cW K G σ) H) (hi : i < 8) (hdg : decode cc pc = .ok (.iaload, 1)) (kk : W p l e R s m args below meth c H locs cells slots Q (F0 m (pc + 1) ls (.int (cA_reached σ i) :: rest))) : W p l e R s m args below meth c H locs cells slots Q (F0 m pc ls (.int (nI i) :: .ref (G 18) :: rest)) :=
  z_iald (q0 := 18) X hP rfl hi (by decide) rfl hdg kk
theorem s_cA_reached {σ : cS} {i : Nat} {x : Int32} (X : zFx K zR_A cc p s m args c) (hD : ∀ σ, va_D A (cW K G σ)) (hP : va_P K.1 zcl (cW K G σ) H) (hS : va_S A H0 H locs) (hi : i < 8) (hdg : decode cc pc = .ok (.iastore, 1)) (kk : ∀ (H1 : Heap) (locs1 : List Loc), va_P K.1 zcl (cW K G (p_cA_reached σ (upd (cA_reached σ) i x))) H1 → va_S A H0 H1 locs1 → W p l e R s m args below meth c H1 locs1 cells slots Q (F0 m (pc + 1) ls rest)) : W p l e R s m args below meth c H locs cells slots Q (F0 m pc ls (.int x :: .int (nI i) :: .ref (G 18) :: rest)) :=
  z_iast (q0 := 18) X hP (hD σ) hS rfl hi (by decide) rfl rfl hdg kk
theorem g_cA_opened {σ : cS} (X : zFx K zR_A cc p s m args c) (hP : va_P K.1 zcl (cW K G σ) H) (hdg : decode cc pc = .ok (.getfield 36, 3)) (kk : W p l e R s m args below meth c H locs cells slots Q (F0 m (pc + 3) ls (.int (nI (cA_opened σ)) :: rest))) : W p l e R s m args below meth c H locs cells slots Q (F0 m pc ls (.ref (G 2) :: rest)) :=
  z_get (N := 9) (ci := 1) (q0 := 2) X zin_A hP rfl rfl 8 (by decide) zw_66 rfl hdg kk
theorem s_cA_opened {σ : cS} {x : Nat} (X : zFx K zR_A cc p s m args c) (hD : ∀ σ, va_D A (cW K G σ)) (hP : va_P K.1 zcl (cW K G σ) H) (hS : va_S A H0 H locs) (hdg : decode cc pc = .ok (.putfield 36, 3)) (kk : ∀ (H1 : Heap) (locs1 : List Loc), va_P K.1 zcl (cW K G (p_cA_opened σ x)) H1 → va_S A H0 H1 locs1 → W p l e R s m args below meth c H1 locs1 cells slots Q (F0 m (pc + 3) ls rest)) : W p l e R s m args below meth c H locs cells slots Q (F0 m pc ls (.int (nI x) :: .ref (G 2) :: rest)) :=
  z_put (N := 9) (ci := 1) (q0 := 2) X zt_A zin_A zty_A znm_A hP (hD σ) hS rfl rfl 8 (by decide) zw_66 rfl rfl rfl (Nat.le_of_ble_eq_true rfl) rfl hdg kk
theorem g_cM_doneSettings {σ : cS} (X : zFx K zR_M cc p s m args c) (hP : va_P K.1 zcl (cW K G σ) H) (hdg : decode cc pc = .ok (.getfield 11, 3)) (kk : W p l e R s m args below meth c H locs cells slots Q (F0 m (pc + 3) ls (.ref (G 19) :: rest))) : W p l e R s m args below meth c H locs cells slots Q (F0 m pc ls (.ref (G 3) :: rest)) :=
  z_get (N := 7) (ci := 2) (q0 := 3) X zin_M hP rfl rfl 0 (by decide) zw_95 rfl hdg kk
theorem l_cM_doneSettings {σ : cS} {i : Nat} (X : zFx K zR_M cc p s m args c) (hP : va_P K.1 zcl (cW K G σ) H) (hi : i < 160) (hdg : decode cc pc = .ok (.iaload, 1)) (kk : W p l e R s m args below meth c H locs cells slots Q (F0 m (pc + 1) ls (.int (cM_doneSettings σ i) :: rest))) : W p l e R s m args below meth c H locs cells slots Q (F0 m pc ls (.int (nI i) :: .ref (G 19) :: rest)) :=
  z_iald (q0 := 19) X hP rfl hi (by decide) rfl hdg kk
theorem s_cM_doneSettings {σ : cS} {i : Nat} {x : Int32} (X : zFx K zR_M cc p s m args c) (hD : ∀ σ, va_D A (cW K G σ)) (hP : va_P K.1 zcl (cW K G σ) H) (hS : va_S A H0 H locs) (hi : i < 160) (hdg : decode cc pc = .ok (.iastore, 1)) (kk : ∀ (H1 : Heap) (locs1 : List Loc), va_P K.1 zcl (cW K G (p_cM_doneSettings σ (upd (cM_doneSettings σ) i x))) H1 → va_S A H0 H1 locs1 → W p l e R s m args below meth c H1 locs1 cells slots Q (F0 m (pc + 1) ls rest)) : W p l e R s m args below meth c H locs cells slots Q (F0 m pc ls (.int x :: .int (nI i) :: .ref (G 19) :: rest)) :=
  z_iast (q0 := 19) X hP (hD σ) hS rfl hi (by decide) rfl rfl hdg kk
theorem g_cM_passedSettings {σ : cS} (X : zFx K zR_M cc p s m args c) (hP : va_P K.1 zcl (cW K G σ) H) (hdg : decode cc pc = .ok (.getfield 15, 3)) (kk : W p l e R s m args below meth c H locs cells slots Q (F0 m (pc + 3) ls (.ref (G 20) :: rest))) : W p l e R s m args below meth c H locs cells slots Q (F0 m pc ls (.ref (G 3) :: rest)) :=
  z_get (N := 7) (ci := 2) (q0 := 3) X zin_M hP rfl rfl 1 (by decide) zw_96 rfl hdg kk
theorem l_cM_passedSettings {σ : cS} {i : Nat} (X : zFx K zR_M cc p s m args c) (hP : va_P K.1 zcl (cW K G σ) H) (hi : i < 160) (hdg : decode cc pc = .ok (.iaload, 1)) (kk : W p l e R s m args below meth c H locs cells slots Q (F0 m (pc + 1) ls (.int (cM_passedSettings σ i) :: rest))) : W p l e R s m args below meth c H locs cells slots Q (F0 m pc ls (.int (nI i) :: .ref (G 20) :: rest)) :=
  z_iald (q0 := 20) X hP rfl hi (by decide) rfl hdg kk
theorem s_cM_passedSettings {σ : cS} {i : Nat} {x : Int32} (X : zFx K zR_M cc p s m args c) (hD : ∀ σ, va_D A (cW K G σ)) (hP : va_P K.1 zcl (cW K G σ) H) (hS : va_S A H0 H locs) (hi : i < 160) (hdg : decode cc pc = .ok (.iastore, 1)) (kk : ∀ (H1 : Heap) (locs1 : List Loc), va_P K.1 zcl (cW K G (p_cM_passedSettings σ (upd (cM_passedSettings σ) i x))) H1 → va_S A H0 H1 locs1 → W p l e R s m args below meth c H1 locs1 cells slots Q (F0 m (pc + 1) ls rest)) : W p l e R s m args below meth c H locs cells slots Q (F0 m pc ls (.int x :: .int (nI i) :: .ref (G 20) :: rest)) :=
  z_iast (q0 := 20) X hP (hD σ) hS rfl hi (by decide) rfl rfl hdg kk
theorem g_cM_doneTimes {σ : cS} (X : zFx K zR_M cc p s m args c) (hP : va_P K.1 zcl (cW K G σ) H) (hdg : decode cc pc = .ok (.getfield 18, 3)) (kk : W p l e R s m args below meth c H locs cells slots Q (F0 m (pc + 3) ls (.ref (G 21) :: rest))) : W p l e R s m args below meth c H locs cells slots Q (F0 m pc ls (.ref (G 3) :: rest)) :=
  z_get (N := 7) (ci := 2) (q0 := 3) X zin_M hP rfl rfl 2 (by decide) zw_97 rfl hdg kk
theorem l_cM_doneTimes {σ : cS} {i : Nat} (X : zFx K zR_M cc p s m args c) (hP : va_P K.1 zcl (cW K G σ) H) (hi : i < 160) (hdg : decode cc pc = .ok (.iaload, 1)) (kk : W p l e R s m args below meth c H locs cells slots Q (F0 m (pc + 1) ls (.int (cM_doneTimes σ i) :: rest))) : W p l e R s m args below meth c H locs cells slots Q (F0 m pc ls (.int (nI i) :: .ref (G 21) :: rest)) :=
  z_iald (q0 := 21) X hP rfl hi (by decide) rfl hdg kk
theorem s_cM_doneTimes {σ : cS} {i : Nat} {x : Int32} (X : zFx K zR_M cc p s m args c) (hD : ∀ σ, va_D A (cW K G σ)) (hP : va_P K.1 zcl (cW K G σ) H) (hS : va_S A H0 H locs) (hi : i < 160) (hdg : decode cc pc = .ok (.iastore, 1)) (kk : ∀ (H1 : Heap) (locs1 : List Loc), va_P K.1 zcl (cW K G (p_cM_doneTimes σ (upd (cM_doneTimes σ) i x))) H1 → va_S A H0 H1 locs1 → W p l e R s m args below meth c H1 locs1 cells slots Q (F0 m (pc + 1) ls rest)) : W p l e R s m args below meth c H locs cells slots Q (F0 m pc ls (.int x :: .int (nI i) :: .ref (G 21) :: rest)) :=
  z_iast (q0 := 21) X hP (hD σ) hS rfl hi (by decide) rfl rfl hdg kk
theorem g_cM_results {σ : cS} (X : zFx K zR_M cc p s m args c) (hP : va_P K.1 zcl (cW K G σ) H) (hdg : decode cc pc = .ok (.getfield 21, 3)) (kk : W p l e R s m args below meth c H locs cells slots Q (F0 m (pc + 3) ls (.ref (G 22) :: rest))) : W p l e R s m args below meth c H locs cells slots Q (F0 m pc ls (.ref (G 3) :: rest)) :=
  z_get (N := 7) (ci := 2) (q0 := 3) X zin_M hP rfl rfl 3 (by decide) zw_98 rfl hdg kk
theorem l_cM_results {σ : cS} {i : Nat} (X : zFx K zR_M cc p s m args c) (hP : va_P K.1 zcl (cW K G σ) H) (hi : i < 2560) (hdg : decode cc pc = .ok (.laload, 1)) (kk : W p l e R s m args below meth c H locs cells slots Q (F0 m (pc + 1) ls (.long (cM_results σ i) :: rest))) : W p l e R s m args below meth c H locs cells slots Q (F0 m pc ls (.int (nI i) :: .ref (G 22) :: rest)) :=
  z_lald (q0 := 22) X hP rfl hi (by decide) hdg kk
theorem s_cM_results {σ : cS} {i : Nat} {x : Int64} (X : zFx K zR_M cc p s m args c) (hD : ∀ σ, va_D A (cW K G σ)) (hP : va_P K.1 zcl (cW K G σ) H) (hS : va_S A H0 H locs) (hi : i < 2560) (hdg : decode cc pc = .ok (.lastore, 1)) (kk : ∀ (H1 : Heap) (locs1 : List Loc), va_P K.1 zcl (cW K G (p_cM_results σ (vp_updL (cM_results σ) i x))) H1 → va_S A H0 H1 locs1 → W p l e R s m args below meth c H1 locs1 cells slots Q (F0 m (pc + 1) ls rest)) : W p l e R s m args below meth c H locs cells slots Q (F0 m pc ls (.long x :: .int (nI i) :: .ref (G 22) :: rest)) :=
  z_last (q0 := 22) X hP (hD σ) hS rfl hi (by decide) rfl hdg kk
theorem g_cM_makers {σ : cS} (X : zFx K zR_M cc p s m args c) (hP : va_P K.1 zcl (cW K G σ) H) (hdg : decode cc pc = .ok (.getfield 25, 3)) (kk : W p l e R s m args below meth c H locs cells slots Q (F0 m (pc + 3) ls (.ref (G 23) :: rest))) : W p l e R s m args below meth c H locs cells slots Q (F0 m pc ls (.ref (G 3) :: rest)) :=
  z_get (N := 7) (ci := 2) (q0 := 3) X zin_M hP rfl rfl 4 (by decide) zw_99 rfl hdg kk
theorem l_cM_makers {σ : cS} {i : Nat} (X : zFx K zR_M cc p s m args c) (hP : va_P K.1 zcl (cW K G σ) H) (hi : i < 200) (hdg : decode cc pc = .ok (.iaload, 1)) (kk : W p l e R s m args below meth c H locs cells slots Q (F0 m (pc + 1) ls (.int (cM_makers σ i) :: rest))) : W p l e R s m args below meth c H locs cells slots Q (F0 m pc ls (.int (nI i) :: .ref (G 23) :: rest)) :=
  z_iald (q0 := 23) X hP rfl hi (by decide) rfl hdg kk
theorem s_cM_makers {σ : cS} {i : Nat} {x : Int32} (X : zFx K zR_M cc p s m args c) (hD : ∀ σ, va_D A (cW K G σ)) (hP : va_P K.1 zcl (cW K G σ) H) (hS : va_S A H0 H locs) (hi : i < 200) (hdg : decode cc pc = .ok (.iastore, 1)) (kk : ∀ (H1 : Heap) (locs1 : List Loc), va_P K.1 zcl (cW K G (p_cM_makers σ (upd (cM_makers σ) i x))) H1 → va_S A H0 H1 locs1 → W p l e R s m args below meth c H1 locs1 cells slots Q (F0 m (pc + 1) ls rest)) : W p l e R s m args below meth c H locs cells slots Q (F0 m pc ls (.int x :: .int (nI i) :: .ref (G 23) :: rest)) :=
  z_iast (q0 := 23) X hP (hD σ) hS rfl hi (by decide) rfl rfl hdg kk
theorem g_cM_makerSettings {σ : cS} (X : zFx K zR_M cc p s m args c) (hP : va_P K.1 zcl (cW K G σ) H) (hdg : decode cc pc = .ok (.getfield 28, 3)) (kk : W p l e R s m args below meth c H locs cells slots Q (F0 m (pc + 3) ls (.ref (G 24) :: rest))) : W p l e R s m args below meth c H locs cells slots Q (F0 m pc ls (.ref (G 3) :: rest)) :=
  z_get (N := 7) (ci := 2) (q0 := 3) X zin_M hP rfl rfl 5 (by decide) zw_100 rfl hdg kk
theorem l_cM_makerSettings {σ : cS} {i : Nat} (X : zFx K zR_M cc p s m args c) (hP : va_P K.1 zcl (cW K G σ) H) (hi : i < 200) (hdg : decode cc pc = .ok (.iaload, 1)) (kk : W p l e R s m args below meth c H locs cells slots Q (F0 m (pc + 1) ls (.int (nI (cM_makerSettings σ i)) :: rest))) : W p l e R s m args below meth c H locs cells slots Q (F0 m pc ls (.int (nI i) :: .ref (G 24) :: rest)) :=
  z_iald (q0 := 24) X hP rfl hi (by decide) rfl hdg kk
theorem s_cM_makerSettings {σ : cS} {i x : Nat} (X : zFx K zR_M cc p s m args c) (hD : ∀ σ, va_D A (cW K G σ)) (hP : va_P K.1 zcl (cW K G σ) H) (hS : va_S A H0 H locs) (hi : i < 200) (hdg : decode cc pc = .ok (.iastore, 1)) (kk : ∀ (H1 : Heap) (locs1 : List Loc), va_P K.1 zcl (cW K G (p_cM_makerSettings σ (upN (cM_makerSettings σ) i x))) H1 → va_S A H0 H1 locs1 → W p l e R s m args below meth c H1 locs1 cells slots Q (F0 m (pc + 1) ls rest)) : W p l e R s m args below meth c H locs cells slots Q (F0 m pc ls (.int (nI x) :: .int (nI i) :: .ref (G 24) :: rest)) :=
  z_iast (q0 := 24) X hP (hD σ) hS rfl hi (by decide) (upN_nI _ _ _) rfl hdg kk
theorem g_cM_nowDone {σ : cS} (X : zFx K zR_M cc p s m args c) (hP : va_P K.1 zcl (cW K G σ) H) (hdg : decode cc pc = .ok (.getfield 41, 3)) (kk : W p l e R s m args below meth c H locs cells slots Q (F0 m (pc + 3) ls (.int (cM_nowDone σ) :: rest))) : W p l e R s m args below meth c H locs cells slots Q (F0 m pc ls (.ref (G 3) :: rest)) :=
  z_get (N := 7) (ci := 2) (q0 := 3) X zin_M hP rfl rfl 6 (by decide) zw_101 rfl hdg kk
theorem s_cM_nowDone {σ : cS} {x : Int32} (X : zFx K zR_M cc p s m args c) (hD : ∀ σ, va_D A (cW K G σ)) (hP : va_P K.1 zcl (cW K G σ) H) (hS : va_S A H0 H locs) (hdg : decode cc pc = .ok (.putfield 41, 3)) (kk : ∀ (H1 : Heap) (locs1 : List Loc), va_P K.1 zcl (cW K G (p_cM_nowDone σ x)) H1 → va_S A H0 H1 locs1 → W p l e R s m args below meth c H1 locs1 cells slots Q (F0 m (pc + 3) ls rest)) : W p l e R s m args below meth c H locs cells slots Q (F0 m pc ls (.int x :: .ref (G 3) :: rest)) :=
  z_put (N := 7) (ci := 2) (q0 := 3) X zt_M zin_M zty_M znm_M hP (hD σ) hS rfl rfl 6 (by decide) zw_101 rfl rfl rfl (Nat.le_of_ble_eq_true rfl) rfl hdg kk
theorem g_cW_targets {σ : cS} (X : zFx K zR_W cc p s m args c) (hP : va_P K.1 zcl (cW K G σ) H) (hdg : decode cc pc = .ok (.getfield 12, 3)) (kk : W p l e R s m args below meth c H locs cells slots Q (F0 m (pc + 3) ls (.ref (G 1) :: rest))) : W p l e R s m args below meth c H locs cells slots Q (F0 m pc ls (.ref (G 0) :: rest)) :=
  z_get (N := 4) (ci := 3) (q0 := 0) X zin_W hP rfl rfl 0 (by decide) zw_118 rfl hdg kk
theorem g_cW_aspects {σ : cS} (X : zFx K zR_W cc p s m args c) (hP : va_P K.1 zcl (cW K G σ) H) (hdg : decode cc pc = .ok (.getfield 19, 3)) (kk : W p l e R s m args below meth c H locs cells slots Q (F0 m (pc + 3) ls (.ref (G 2) :: rest))) : W p l e R s m args below meth c H locs cells slots Q (F0 m pc ls (.ref (G 0) :: rest)) :=
  z_get (N := 4) (ci := 3) (q0 := 0) X zin_W hP rfl rfl 1 (by decide) zw_119 rfl hdg kk
theorem g_cW_memory {σ : cS} (X : zFx K zR_W cc p s m args c) (hP : va_P K.1 zcl (cW K G σ) H) (hdg : decode cc pc = .ok (.getfield 26, 3)) (kk : W p l e R s m args below meth c H locs cells slots Q (F0 m (pc + 3) ls (.ref (G 3) :: rest))) : W p l e R s m args below meth c H locs cells slots Q (F0 m pc ls (.ref (G 0) :: rest)) :=
  z_get (N := 4) (ci := 3) (q0 := 0) X zin_W hP rfl rfl 2 (by decide) zw_120 rfl hdg kk
theorem g_cW_latestClash {σ : cS} (X : zFx K zR_W cc p s m args c) (hP : va_P K.1 zcl (cW K G σ) H) (hdg : decode cc pc = .ok (.getfield 30, 3)) (kk : W p l e R s m args below meth c H locs cells slots Q (F0 m (pc + 3) ls (.ref (G 4) :: rest))) : W p l e R s m args below meth c H locs cells slots Q (F0 m pc ls (.ref (G 0) :: rest)) :=
  z_get (N := 4) (ci := 3) (q0 := 0) X zin_W hP rfl rfl 3 (by decide) zw_121 rfl hdg kk
theorem l_cW_clash {σ : cS} {i : Nat} (X : zFx K zR_W cc p s m args c) (hP : va_P K.1 zcl (cW K G σ) H) (hi : i < 5) (hdg : decode cc pc = .ok (.iaload, 1)) (kk : W p l e R s m args below meth c H locs cells slots Q (F0 m (pc + 1) ls (.int (cW_clash σ i) :: rest))) : W p l e R s m args below meth c H locs cells slots Q (F0 m pc ls (.int (nI i) :: .ref (G 4) :: rest)) :=
  z_iald (q0 := 4) X hP rfl hi (by decide) rfl hdg kk
theorem s_cW_clash {σ : cS} {i : Nat} {x : Int32} (X : zFx K zR_W cc p s m args c) (hD : ∀ σ, va_D A (cW K G σ)) (hP : va_P K.1 zcl (cW K G σ) H) (hS : va_S A H0 H locs) (hi : i < 5) (hdg : decode cc pc = .ok (.iastore, 1)) (kk : ∀ (H1 : Heap) (locs1 : List Loc), va_P K.1 zcl (cW K G (p_cW_clash σ (upd (cW_clash σ) i x))) H1 → va_S A H0 H1 locs1 → W p l e R s m args below meth c H1 locs1 cells slots Q (F0 m (pc + 1) ls rest)) : W p l e R s m args below meth c H locs cells slots Q (F0 m pc ls (.int x :: .int (nI i) :: .ref (G 4) :: rest)) :=
  z_iast (q0 := 4) X hP (hD σ) hS rfl hi (by decide) rfl rfl hdg kk
end ZC
