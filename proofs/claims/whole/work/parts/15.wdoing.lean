/-! the doing of the class (by program: wip/gen/wdoing.py) -/
abbrev cMu : Type := cMS × (Nat → Int32)
/-- one after another, till one ends all -/
def dLoop (f : cMu → Nat → Int32 × cMu) : Nat → Nat → cMu → Int32 × cMu
  | 0, _, μ => (nI 1, μ)
  | j + 1, i, μ => if 0 ≤ (f μ i).1 then dLoop f j (i + 1) (f μ i).2 else f μ i
def dBelow (f : cMu → Nat → Nat → Int32 × cMu) (len : Nat → Nat) : Nat → Nat → cMu → Int32 × cMu
  | 0, _, μ => (nI 1, μ)
  | j + 1, z, μ => if 0 ≤ (dLoop (fun μ i => f μ z i) (len z) 0 μ).1 then dBelow f len j (z + 1) (dLoop (fun μ i => f μ z i) (len z) 0 μ).2 else dLoop (fun μ i => f μ z i) (len z) 0 μ
/-- the end of a doing: its output and its result -/
def cFin (σ : cS) (t a k : Nat) : Int32 × cMu := if (cMake σ t a k).1 = 0 then (-2, (cMake σ t a k).2.2.2) else (nI 1, (cKeepDone (cMake σ t a k).2 t a k (cJoined (cMake σ t a k).2 t a k)).2.2)
/-- the doing, with d levels left -/
def cDo (T : cTS) (A : cAS) : Nat → cMu → Nat → Nat → Nat → Int32 × cMu
  | 0, μ, _, _, _ => (-1, μ)
  | d + 1, μ, t, a, k =>
    if cKnown (T, A, μ) t a k = -1 then
      if 0 ≤ (dLoop (fun μ i => cDo T A d μ t (cA_needs (T, A, μ) (a * 3 + i)) k) (cA_needCounts (T, A, μ) a) 0 μ).1 then
        if cLacks (T, A, (dLoop (fun μ i => cDo T A d μ t (cA_needs (T, A, μ) (a * 3 + i)) k) (cA_needCounts (T, A, μ) a) 0 μ).2) t a k = 0 then
          if 0 ≤ (dBelow (fun μ z i => cDo T A d μ (cT_rows (T, A, μ) ((t * 3 + z) * 4 + i)) a k) (cLen (T, A, μ) t a) 3 0 (dLoop (fun μ i => cDo T A d μ t (cA_needs (T, A, μ) (a * 3 + i)) k) (cA_needCounts (T, A, μ) a) 0 μ).2).1 then
            cFin (T, A, (dBelow (fun μ z i => cDo T A d μ (cT_rows (T, A, μ) ((t * 3 + z) * 4 + i)) a k) (cLen (T, A, μ) t a) 3 0 (dLoop (fun μ i => cDo T A d μ t (cA_needs (T, A, μ) (a * 3 + i)) k) (cA_needCounts (T, A, μ) a) 0 μ).2).2) t a k
          else dBelow (fun μ z i => cDo T A d μ (cT_rows (T, A, μ) ((t * 3 + z) * 4 + i)) a k) (cLen (T, A, μ) t a) 3 0 (dLoop (fun μ i => cDo T A d μ t (cA_needs (T, A, μ) (a * 3 + i)) k) (cA_needCounts (T, A, μ) a) 0 μ).2
        else (nI 0, (cKeepPassed (T, A, (dLoop (fun μ i => cDo T A d μ t (cA_needs (T, A, μ) (a * 3 + i)) k) (cA_needCounts (T, A, μ) a) 0 μ).2) t a k).2.2)
      else dLoop (fun μ i => cDo T A d μ t (cA_needs (T, A, μ) (a * 3 + i)) k) (cA_needCounts (T, A, μ) a) 0 μ
    else (cKnown (T, A, μ) t a k, μ)
theorem cMake_eta (T : cTS) (A : cAS) (μ : cMu) (t a k : Nat) : (cMake (T, A, μ) t a k).2 = (T, A, (cMake (T, A, μ) t a k).2.2.2) := by
  unfold cMake
  split
  · rfl
  · split
    · rfl
    · rfl
/-- the contract of doing at a depth -/
def cDoing (l : Launch) (K : zK) (G : Nat → Nat) (A : Nat → Prop) (T : cTS) (S : cAS) (d dp : Nat) : Prop :=
  ∀ (μ : cMu) (t a k : Nat), t < 20 → a < 8 → k < 16 → zMet l K A zy_W_doing zws_W_doing (2 * d + 6) [.ref (G 0), .int (nI t), .int (nI a), .int (nI k), .int (nI dp)] (cW K G (T, S, μ)) (cW K G (T, S, (cDo T S d μ t a k).2)) (some (.int (cDo T S d μ t a k).1))

set_option maxHeartbeats 4000000 in
set_option maxRecDepth 100000 in
/-- doNeeds' loop -/
theorem q_W_doNeeds {p : Program} {e : Env} {s : State} {m : MethodId} {args : Array Value} {below : List Frame} {meth : Method} {c : Code} (l : Launch) (K : zK) (G : Nat → Nat) (A : Nat → Prop) (hD : ∀ σ, va_D A (cW K G σ)) (X : zFx K zR_W zb_W_doNeeds p s m args c) (hr : meth.sig.returnType = some .int) (hml : c.maxLocals = 7) (hlocks : meth.locks = false) (T : cTS) (S : cAS) (d dp : Nat) (hdo : cDoing l K G A T S d (dp + 1)) (t a k : Nat) (ht : t < 20) (ha : a < 8) (hk : k < 16) (hdp : dp < 100) (hB : ∀ μ, cB (T, S, μ)) : ∀ (j i : Nat) (μ : cMu), i + j = cA_needCounts (T, S, μ) a → ∀ (H : Heap) (locs : List Loc) (ls : Array Slot), va_P K.1 zcl (cW K G (T, S, μ)) H → va_S A s.heap H locs → lv_has ls 7 [(5, .int (nI i)), (0, .ref (G 0)), (1, .int (nI t)), (2, .int (nI a)), (3, .int (nI k)), (4, .int (nI dp))] → W p l e (zrm (2 * d + 7)) s m args below meth c H locs 0 0 (MQ below (zPost K A (cW K G (T, S, (dLoop (fun μ i => cDo T S d μ t (cA_needs (T, S, μ) (a * 3 + i)) k) j i μ).2)) (some (.int (dLoop (fun μ i => cDo T S d μ t (cA_needs (T, S, μ) (a * 3 + i)) k) j i μ).1))) args s 0 0 A) (F0 m 3 ls []) := by
  intro j
  induction j with
  | zero =>
    intro i μ hi H locs ls hP hS hl
    have hB1 := (hB μ).2.2.2.2.2.1 (a * 3 + i)
    have hB2 := (hB μ).2.2.2.2.2.2.1 a
    refine lv_iload X.1 X.2.1 zd_W_doNeeds_3 (lv_at hl 0 rfl) ?_
    refine lv_aload_n X.1 X.2.1 zd_W_doNeeds_5 rfl (lv_at hl 1 rfl) ?_
    refine g_cW_aspects X hP zd_W_doNeeds_6 ?_
    refine lv_iload_n X.1 X.2.1 zd_W_doNeeds_9 rfl (lv_at hl 3 rfl) ?_
    refine z_callVi (As := [.int (nI a)]) (rest := [.int (nI i)]) (q0 := 2) (ci := 1) X hml (k_A_needCount l K G A hD (T, S, μ) a (by omega)) (zk_W_78 X.2.2.2.1 (z_rm (by omega) (by decide))) rfl rfl rfl hP hS rfl hl.1 rfl (Nat.le_of_ble_eq_true rfl) zd_W_doNeeds_10 ⟨Nat.zero_le _, Nat.zero_le _⟩ (fun H locs hP hS => ?_)
    refine lv_icmp_ge (tgt := 52) X.1 X.2.1 zd_W_doNeeds_13 (by decide) (fun _ => ?_) (fun h9 => absurd (by rw [nI_leI (by omega) (by omega)]; omega) h9)
    refine lv_iconst (v := nI 1) X.1 X.2.1 zd_W_doNeeds_52 (by decide) ?_
    exact z_iret X.1 X.2.1 hr hlocks rfl rfl hP hS zd_W_doNeeds_53
  | succ j ih =>
    intro i μ hi H locs ls hP hS hl
    have hB1 := (hB μ).2.2.2.2.2.1 (a * 3 + i)
    have hB2 := (hB μ).2.2.2.2.2.2.1 a
    refine lv_iload X.1 X.2.1 zd_W_doNeeds_3 (lv_at hl 0 rfl) ?_
    refine lv_aload_n X.1 X.2.1 zd_W_doNeeds_5 rfl (lv_at hl 1 rfl) ?_
    refine g_cW_aspects X hP zd_W_doNeeds_6 ?_
    refine lv_iload_n X.1 X.2.1 zd_W_doNeeds_9 rfl (lv_at hl 3 rfl) ?_
    refine z_callVi (As := [.int (nI a)]) (rest := [.int (nI i)]) (q0 := 2) (ci := 1) X hml (k_A_needCount l K G A hD (T, S, μ) a (by omega)) (zk_W_78 X.2.2.2.1 (z_rm (by omega) (by decide))) rfl rfl rfl hP hS rfl hl.1 rfl (Nat.le_of_ble_eq_true rfl) zd_W_doNeeds_10 ⟨Nat.zero_le _, Nat.zero_le _⟩ (fun H locs hP hS => ?_)
    refine lv_icmp_ge (tgt := 52) X.1 X.2.1 zd_W_doNeeds_13 (by decide) (fun h9 => absurd h9 (by rw [nI_leI (by omega) (by omega)]; omega)) (fun _ => ?_)
    refine lv_aload_n X.1 X.2.1 zd_W_doNeeds_16 rfl (lv_at hl 1 rfl) ?_
    refine lv_iload_n X.1 X.2.1 zd_W_doNeeds_17 rfl (lv_at hl 2 rfl) ?_
    refine lv_aload_n X.1 X.2.1 zd_W_doNeeds_18 rfl (lv_at hl 1 rfl) ?_
    refine g_cW_aspects X hP zd_W_doNeeds_19 ?_
    refine lv_iload_n X.1 X.2.1 zd_W_doNeeds_22 rfl (lv_at hl 3 rfl) ?_
    refine lv_iload X.1 X.2.1 zd_W_doNeeds_23 (lv_at hl 0 rfl) ?_
    refine z_callVi (As := [.int (nI a), .int (nI i)]) (rest := [.int (nI t), .ref (G 0)]) (q0 := 2) (ci := 1) X hml (k_A_needAt l K G A hD (T, S, μ) a i (by omega) (by omega)) (zk_W_152 X.2.2.2.1 (z_rm (by omega) (by decide))) rfl rfl rfl hP hS rfl hl.1 rfl (Nat.le_of_ble_eq_true rfl) zd_W_doNeeds_25 ⟨Nat.zero_le _, Nat.zero_le _⟩ (fun H locs hP hS => ?_)
    refine lv_iload_n X.1 X.2.1 zd_W_doNeeds_28 rfl (lv_at hl 4 rfl) ?_
    refine lv_iload X.1 X.2.1 zd_W_doNeeds_29 (lv_at hl 5 rfl) ?_
    refine lv_iconst (v := nI 1) X.1 X.2.1 zd_W_doNeeds_31 (by decide) ?_
    refine lv_iadd X.1 X.2.1 zd_W_doNeeds_32 ?_
    refine z_top (nI_add _ _) ?_
    refine z_callVi (As := [.int (nI t), .int (nI (cA_needs (T, S, μ) (a * 3 + i))), .int (nI k), .int (nI (dp + 1))]) (rest := []) (q0 := 0) (ci := 3) X hml (hdo μ t (cA_needs (T, S, μ) (a * 3 + i)) k (by omega) (by omega) (by omega)) (zk_W_94 X.2.2.2.1 (z_rm (by omega) (by decide))) rfl rfl rfl hP hS rfl hl.1 rfl (Nat.le_of_ble_eq_true rfl) zd_W_doNeeds_33 ⟨Nat.zero_le _, Nat.zero_le _⟩ (fun H locs hP hS => ?_)
    refine lv_istore (lv' := [(6, .int ((cDo T S d μ t (cA_needs (T, S, μ) (a * 3 + i)) k).1)), (5, .int (nI i)), (0, .ref (G 0)), (1, .int (nI t)), (2, .int (nI a)), (3, .int (nI k)), (4, .int (nI dp))]) X.1 X.2.1 zd_W_doNeeds_36 hl (by decide) rfl (fun ls hl => ?_)
    refine lv_iload X.1 X.2.1 zd_W_doNeeds_38 (lv_at hl 0 rfl) ?_
    refine lv_if_ge (tgt := 46) X.1 X.2.1 zd_W_doNeeds_40 (by decide) (fun c1 => ?_) (fun c1 => ?_)
    · refine lv_iinc (v := nI (i + 1)) (lv' := [(5, .int (nI (i + 1))), (6, .int ((cDo T S d μ t (cA_needs (T, S, μ) (a * 3 + i)) k).1)), (0, .ref (G 0)), (1, .int (nI t)), (2, .int (nI a)), (3, .int (nI k)), (4, .int (nI dp))]) X.1 X.2.1 zd_W_doNeeds_46 hl (k := 1) rfl (nI_1 _) (by decide) rfl (fun ls hl => ?_)
      refine lv_goto (tgt := 3) X.1 X.2.1 zd_W_doNeeds_49 (by decide) ?_
      rw [show dLoop (fun μ i => cDo T S d μ t (cA_needs (T, S, μ) (a * 3 + i)) k) (j + 1) i μ = dLoop (fun μ i => cDo T S d μ t (cA_needs (T, S, μ) (a * 3 + i)) k) j (i + 1) ((fun μ i => cDo T S d μ t (cA_needs (T, S, μ) (a * 3 + i)) k) μ i).2 from by rw [dLoop]; exact if_pos c1]
      exact ih (i + 1) ((fun μ i => cDo T S d μ t (cA_needs (T, S, μ) (a * 3 + i)) k) μ i).2 (show i + 1 + j = cA_needCounts (T, S, μ) a by omega) H locs ls hP hS (lv_sub hl [0, 2, 3, 4, 5, 6] rfl)
    · refine lv_iload X.1 X.2.1 zd_W_doNeeds_43 (lv_at hl 0 rfl) ?_
      rw [show dLoop (fun μ i => cDo T S d μ t (cA_needs (T, S, μ) (a * 3 + i)) k) (j + 1) i μ = (fun μ i => cDo T S d μ t (cA_needs (T, S, μ) (a * 3 + i)) k) μ i from by rw [dLoop]; exact if_neg c1]
      exact z_iret X.1 X.2.1 hr hlocks rfl rfl hP hS zd_W_doNeeds_45

set_option maxHeartbeats 4000000 in
set_option maxRecDepth 100000 in
/-- doNeeds -/
theorem k_W_doNeeds (l : Launch) (K : zK) (G : Nat → Nat) (A : Nat → Prop) (hD : ∀ σ, va_D A (cW K G σ)) (T : cTS) (S : cAS) (d dp : Nat) (hdo : cDoing l K G A T S d (dp + 1)) (μ : cMu) (t a k : Nat) (ht : t < 20) (ha : a < 8) (hk : k < 16) (hdp : dp < 100) (hB : ∀ μ, cB (T, S, μ)) : zMet l K A zy_W_doNeeds zws_W_doNeeds (2 * d + 7) [.ref (G 0), .int (nI t), .int (nI a), .int (nI k), .int (nI dp)] (cW K G (T, S, μ)) (cW K G (T, S, (dLoop (fun μ i => cDo T S d μ t (cA_needs (T, S, μ) (a * 3 + i)) k) (cA_needCounts (T, S, μ) a) 0 μ).2)) (some (.int (dLoop (fun μ i => cDo T S d μ t (cA_needs (T, S, μ) (a * 3 + i)) k) (cA_needCounts (T, S, μ) a) 0 μ).1)) := by
  refine z_entry (by decide) (Nat.le_of_ble_eq_true rfl) ?_
  intro p e s m below meth c ls X hr hml hlocks hP hl
  have hS : va_S A s.heap s.heap [] := va_S.rf
  have hl : lv_has ls 7 [(0, .ref (G 0)), (1, .int (nI t)), (2, .int (nI a)), (3, .int (nI k)), (4, .int (nI dp))] := hl
  refine lv_iconst (v := nI 0) X.1 X.2.1 zd_W_doNeeds_0 (by decide) ?_
  refine lv_istore (lv' := [(5, .int (nI 0)), (0, .ref (G 0)), (1, .int (nI t)), (2, .int (nI a)), (3, .int (nI k)), (4, .int (nI dp))]) X.1 X.2.1 zd_W_doNeeds_1 hl (by decide) rfl (fun ls hl => ?_)
  exact q_W_doNeeds l K G A hD X hr hml hlocks T S d dp hdo t a k ht ha hk hdp hB (cA_needCounts (T, S, μ) a) 0 μ (Nat.zero_add _) s.heap [] ls hP hS (lv_sub hl [0, 1, 2, 3, 4, 5] rfl)

set_option maxHeartbeats 4000000 in
set_option maxRecDepth 100000 in
/-- doBelow's inner loop -/
theorem q_W_doBelow_i {p : Program} {e : Env} {s : State} {m : MethodId} {args : Array Value} {below : List Frame} {meth : Method} {c : Code} (l : Launch) (K : zK) (G : Nat → Nat) (A : Nat → Prop) (hD : ∀ σ, va_D A (cW K G σ)) (X : zFx K zR_W zb_W_doBelow p s m args c) (hr : meth.sig.returnType = some .int) (hml : c.maxLocals = 9) (hlocks : meth.locks = false) (T : cTS) (S : cAS) (d dp : Nat) (hdo : cDoing l K G A T S d (dp + 1)) (t a k : Nat) (ht : t < 20) (ha : a < 8) (hk : k < 16) (hdp : dp < 100) (hB : ∀ μ, cB (T, S, μ)) (z len : Nat) (hz : z < 3) (hlen : len ≤ 4) (F : Int32 × cMu) : ∀ (j i : Nat) (μ : cMu), i + j = len → (¬ 0 ≤ (dLoop (fun μ i => cDo T S d μ (cT_rows (T, S, μ) ((t * 3 + z) * 4 + i)) a k) j i μ).1 → F = dLoop (fun μ i => cDo T S d μ (cT_rows (T, S, μ) ((t * 3 + z) * 4 + i)) a k) j i μ) → (0 ≤ (dLoop (fun μ i => cDo T S d μ (cT_rows (T, S, μ) ((t * 3 + z) * 4 + i)) a k) j i μ).1 → ∀ (H : Heap) (locs : List Loc) (ls : Array Slot), va_P K.1 zcl (cW K G (T, S, (dLoop (fun μ i => cDo T S d μ (cT_rows (T, S, μ) ((t * 3 + z) * 4 + i)) a k) j i μ).2)) H → va_S A s.heap H locs → lv_has ls 9 [(5, .int (nI z)), (0, .ref (G 0)), (1, .int (nI t)), (2, .int (nI a)), (3, .int (nI k)), (4, .int (nI dp))] → W p l e (zrm (2 * d + 7)) s m args below meth c H locs 0 0 (MQ below (zPost K A (cW K G (T, S, F.2)) (some (.int F.1))) args s 0 0 A) (F0 m 67 ls [])) → ∀ (H : Heap) (locs : List Loc) (ls : Array Slot), va_P K.1 zcl (cW K G (T, S, μ)) H → va_S A s.heap H locs → lv_has ls 9 [(7, .int (nI i)), (6, .int (nI len)), (5, .int (nI z)), (0, .ref (G 0)), (1, .int (nI t)), (2, .int (nI a)), (3, .int (nI k)), (4, .int (nI dp))] → W p l e (zrm (2 * d + 7)) s m args below meth c H locs 0 0 (MQ below (zPost K A (cW K G (T, S, F.2)) (some (.int F.1))) args s 0 0 A) (F0 m 22 ls []) := by
  intro j
  induction j with
  | zero =>
    intro i μ hi hF kont H locs ls hP hS hl
    have hB1 := (hB μ).2.2.2.1 ((t * 3 + z) * 4 + i)
    refine lv_iload X.1 X.2.1 zd_W_doBelow_22 (lv_at hl 0 rfl) ?_
    refine lv_iload X.1 X.2.1 zd_W_doBelow_24 (lv_at hl 1 rfl) ?_
    refine lv_icmp_ge (tgt := 67) X.1 X.2.1 zd_W_doBelow_26 (by decide) (fun _ => ?_) (fun h9 => absurd (by rw [nI_leI (by omega) (by omega)]; omega) h9)
    exact kont (show (0 : Int32) ≤ nI 1 by decide) H locs ls hP hS (lv_sub hl [2, 3, 4, 5, 6, 7] rfl)
  | succ j ih =>
    intro i μ hi hF kont H locs ls hP hS hl
    have hB1 := (hB μ).2.2.2.1 ((t * 3 + z) * 4 + i)
    refine lv_iload X.1 X.2.1 zd_W_doBelow_22 (lv_at hl 0 rfl) ?_
    refine lv_iload X.1 X.2.1 zd_W_doBelow_24 (lv_at hl 1 rfl) ?_
    refine lv_icmp_ge (tgt := 67) X.1 X.2.1 zd_W_doBelow_26 (by decide) (fun h9 => absurd h9 (by rw [nI_leI (by omega) (by omega)]; omega)) (fun _ => ?_)
    refine lv_aload_n X.1 X.2.1 zd_W_doBelow_29 rfl (lv_at hl 3 rfl) ?_
    refine lv_aload_n X.1 X.2.1 zd_W_doBelow_30 rfl (lv_at hl 3 rfl) ?_
    refine g_cW_targets X hP zd_W_doBelow_31 ?_
    refine lv_iload_n X.1 X.2.1 zd_W_doBelow_34 rfl (lv_at hl 4 rfl) ?_
    refine lv_iload X.1 X.2.1 zd_W_doBelow_35 (lv_at hl 2 rfl) ?_
    refine lv_iload X.1 X.2.1 zd_W_doBelow_37 (lv_at hl 0 rfl) ?_
    refine z_callVi (As := [.int (nI t), .int (nI z), .int (nI i)]) (rest := [.ref (G 0)]) (q0 := 1) (ci := 0) X hml (k_T_rowAt l K G A hD (T, S, μ) t z i (by omega) (by omega) (by omega)) (zk_W_158 X.2.2.2.1 (z_rm (by omega) (by decide))) rfl rfl rfl hP hS rfl hl.1 rfl (Nat.le_of_ble_eq_true rfl) zd_W_doBelow_39 ⟨Nat.zero_le _, Nat.zero_le _⟩ (fun H locs hP hS => ?_)
    refine lv_iload_n X.1 X.2.1 zd_W_doBelow_42 rfl (lv_at hl 5 rfl) ?_
    refine lv_iload_n X.1 X.2.1 zd_W_doBelow_43 rfl (lv_at hl 6 rfl) ?_
    refine lv_iload X.1 X.2.1 zd_W_doBelow_44 (lv_at hl 7 rfl) ?_
    refine lv_iconst (v := nI 1) X.1 X.2.1 zd_W_doBelow_46 (by decide) ?_
    refine lv_iadd X.1 X.2.1 zd_W_doBelow_47 ?_
    refine z_top (nI_add _ _) ?_
    refine z_callVi (As := [.int (nI (cT_rows (T, S, μ) ((t * 3 + z) * 4 + i))), .int (nI a), .int (nI k), .int (nI (dp + 1))]) (rest := []) (q0 := 0) (ci := 3) X hml (hdo μ (cT_rows (T, S, μ) ((t * 3 + z) * 4 + i)) a k (by omega) (by omega) (by omega)) (zk_W_94 X.2.2.2.1 (z_rm (by omega) (by decide))) rfl rfl rfl hP hS rfl hl.1 rfl (Nat.le_of_ble_eq_true rfl) zd_W_doBelow_48 ⟨Nat.zero_le _, Nat.zero_le _⟩ (fun H locs hP hS => ?_)
    refine lv_istore (lv' := [(8, .int ((cDo T S d μ (cT_rows (T, S, μ) ((t * 3 + z) * 4 + i)) a k).1)), (7, .int (nI i)), (6, .int (nI len)), (5, .int (nI z)), (0, .ref (G 0)), (1, .int (nI t)), (2, .int (nI a)), (3, .int (nI k)), (4, .int (nI dp))]) X.1 X.2.1 zd_W_doBelow_51 hl (by decide) rfl (fun ls hl => ?_)
    refine lv_iload X.1 X.2.1 zd_W_doBelow_53 (lv_at hl 0 rfl) ?_
    refine lv_if_ge (tgt := 61) X.1 X.2.1 zd_W_doBelow_55 (by decide) (fun c1 => ?_) (fun c1 => ?_)
    · refine lv_iinc (v := nI (i + 1)) (lv' := [(7, .int (nI (i + 1))), (8, .int ((cDo T S d μ (cT_rows (T, S, μ) ((t * 3 + z) * 4 + i)) a k).1)), (6, .int (nI len)), (5, .int (nI z)), (0, .ref (G 0)), (1, .int (nI t)), (2, .int (nI a)), (3, .int (nI k)), (4, .int (nI dp))]) X.1 X.2.1 zd_W_doBelow_61 hl (k := 1) rfl (nI_1 _) (by decide) rfl (fun ls hl => ?_)
      refine lv_goto (tgt := 22) X.1 X.2.1 zd_W_doBelow_64 (by decide) ?_
      have e9 : dLoop (fun μ i => cDo T S d μ (cT_rows (T, S, μ) ((t * 3 + z) * 4 + i)) a k) (j + 1) i μ = dLoop (fun μ i => cDo T S d μ (cT_rows (T, S, μ) ((t * 3 + z) * 4 + i)) a k) j (i + 1) ((fun μ i => cDo T S d μ (cT_rows (T, S, μ) ((t * 3 + z) * 4 + i)) a k) μ i).2 := by rw [dLoop]; exact if_pos c1
      rw [e9] at hF kont
      exact ih (i + 1) _ (by omega) hF kont H locs ls hP hS (lv_sub hl [0, 2, 3, 4, 5, 6, 7, 8] rfl)
    · refine lv_iload X.1 X.2.1 zd_W_doBelow_58 (lv_at hl 0 rfl) ?_
      have e9 : dLoop (fun μ i => cDo T S d μ (cT_rows (T, S, μ) ((t * 3 + z) * 4 + i)) a k) (j + 1) i μ = (fun μ i => cDo T S d μ (cT_rows (T, S, μ) ((t * 3 + z) * 4 + i)) a k) μ i := by rw [dLoop]; exact if_neg c1
      rw [e9] at hF
      rw [hF c1]
      exact z_iret X.1 X.2.1 hr hlocks rfl rfl hP hS zd_W_doBelow_60

set_option maxHeartbeats 4000000 in
set_option maxRecDepth 100000 in
/-- doBelow's outer loop -/
theorem q_W_doBelow {p : Program} {e : Env} {s : State} {m : MethodId} {args : Array Value} {below : List Frame} {meth : Method} {c : Code} (l : Launch) (K : zK) (G : Nat → Nat) (A : Nat → Prop) (hD : ∀ σ, va_D A (cW K G σ)) (X : zFx K zR_W zb_W_doBelow p s m args c) (hr : meth.sig.returnType = some .int) (hml : c.maxLocals = 9) (hlocks : meth.locks = false) (T : cTS) (S : cAS) (d dp : Nat) (hdo : cDoing l K G A T S d (dp + 1)) (t a k : Nat) (ht : t < 20) (ha : a < 8) (hk : k < 16) (hdp : dp < 100) (hB : ∀ μ, cB (T, S, μ)) (μ0 : cMu) : ∀ (j z : Nat) (μ : cMu), z + j = 3 → ∀ (H : Heap) (locs : List Loc) (ls : Array Slot), va_P K.1 zcl (cW K G (T, S, μ)) H → va_S A s.heap H locs → lv_has ls 9 [(5, .int (nI z)), (0, .ref (G 0)), (1, .int (nI t)), (2, .int (nI a)), (3, .int (nI k)), (4, .int (nI dp))] → W p l e (zrm (2 * d + 7)) s m args below meth c H locs 0 0 (MQ below (zPost K A (cW K G (T, S, (dBelow (fun μ z i => cDo T S d μ (cT_rows (T, S, μ) ((t * 3 + z) * 4 + i)) a k) (cLen (T, S, μ0) t a) j z μ).2)) (some (.int (dBelow (fun μ z i => cDo T S d μ (cT_rows (T, S, μ) ((t * 3 + z) * 4 + i)) a k) (cLen (T, S, μ0) t a) j z μ).1))) args s 0 0 A) (F0 m 3 ls []) := by
  intro j
  induction j with
  | zero =>
    intro z μ hi H locs ls hP hS hl
    have hB2 := cLen_le (hB μ) t a z
    refine lv_iload X.1 X.2.1 zd_W_doBelow_3 (lv_at hl 0 rfl) ?_
    refine lv_iconst (v := nI 3) X.1 X.2.1 zd_W_doBelow_5 (by decide) ?_
    refine lv_icmp_ge (tgt := 73) X.1 X.2.1 zd_W_doBelow_6 (by decide) (fun _ => ?_) (fun h9 => absurd (by rw [nI_leI (by omega) (by omega)]; omega) h9)
    refine lv_iconst (v := nI 1) X.1 X.2.1 zd_W_doBelow_73 (by decide) ?_
    exact z_iret X.1 X.2.1 hr hlocks rfl rfl hP hS zd_W_doBelow_74
  | succ j ih =>
    intro z μ hi H locs ls hP hS hl
    have hB2 := cLen_le (hB μ) t a z
    refine lv_iload X.1 X.2.1 zd_W_doBelow_3 (lv_at hl 0 rfl) ?_
    refine lv_iconst (v := nI 3) X.1 X.2.1 zd_W_doBelow_5 (by decide) ?_
    refine lv_icmp_ge (tgt := 73) X.1 X.2.1 zd_W_doBelow_6 (by decide) (fun h9 => absurd h9 (by rw [nI_leI (by omega) (by omega)]; omega)) (fun _ => ?_)
    refine lv_aload_n X.1 X.2.1 zd_W_doBelow_9 rfl (lv_at hl 1 rfl) ?_
    refine lv_iload_n X.1 X.2.1 zd_W_doBelow_10 rfl (lv_at hl 2 rfl) ?_
    refine lv_iload_n X.1 X.2.1 zd_W_doBelow_11 rfl (lv_at hl 3 rfl) ?_
    refine lv_iload X.1 X.2.1 zd_W_doBelow_12 (lv_at hl 0 rfl) ?_
    refine z_callVi (As := [.int (nI t), .int (nI a), .int (nI z)]) (rest := []) (q0 := 0) (ci := 3) X hml (k_W_lengthAlong l K G A hD (T, S, μ) t a z (by omega) (by omega) (by omega)) (zk_W_155 X.2.2.2.1 (z_rm (by omega) (by decide))) rfl rfl rfl hP hS rfl hl.1 rfl (Nat.le_of_ble_eq_true rfl) zd_W_doBelow_14 ⟨Nat.zero_le _, Nat.zero_le _⟩ (fun H locs hP hS => ?_)
    refine lv_istore (lv' := [(6, .int (nI (cLen (T, S, μ) t a z))), (5, .int (nI z)), (0, .ref (G 0)), (1, .int (nI t)), (2, .int (nI a)), (3, .int (nI k)), (4, .int (nI dp))]) X.1 X.2.1 zd_W_doBelow_17 hl (by decide) rfl (fun ls hl => ?_)
    refine lv_iconst (v := nI 0) X.1 X.2.1 zd_W_doBelow_19 (by decide) ?_
    refine lv_istore (lv' := [(7, .int (nI 0)), (6, .int (nI (cLen (T, S, μ) t a z))), (5, .int (nI z)), (0, .ref (G 0)), (1, .int (nI t)), (2, .int (nI a)), (3, .int (nI k)), (4, .int (nI dp))]) X.1 X.2.1 zd_W_doBelow_20 hl (by decide) rfl (fun ls hl => ?_)
    refine q_W_doBelow_i l K G A hD X hr hml hlocks T S d dp hdo t a k ht ha hk hdp hB z (cLen (T, S, μ) t a z) (by omega) hB2 _ (cLen (T, S, μ) t a z) 0 μ (Nat.zero_add _) (fun h0 => ?_) (fun h0 H locs ls hP hS hl => ?_) H locs ls hP hS (lv_sub hl [0, 1, 2, 3, 4, 5, 6, 7] rfl)
    · rw [dBelow]; exact if_neg h0
    refine lv_iinc (v := nI (z + 1)) (lv' := [(5, .int (nI (z + 1))), (0, .ref (G 0)), (1, .int (nI t)), (2, .int (nI a)), (3, .int (nI k)), (4, .int (nI dp))]) X.1 X.2.1 zd_W_doBelow_67 hl (k := 0) rfl (nI_1 _) (by decide) rfl (fun ls hl => ?_)
    refine lv_goto (tgt := 3) X.1 X.2.1 zd_W_doBelow_70 (by decide) ?_
    rw [show dBelow (fun μ z i => cDo T S d μ (cT_rows (T, S, μ) ((t * 3 + z) * 4 + i)) a k) (cLen (T, S, μ0) t a) (j + 1) z μ = dBelow (fun μ z i => cDo T S d μ (cT_rows (T, S, μ) ((t * 3 + z) * 4 + i)) a k) (cLen (T, S, μ0) t a) j (z + 1) (dLoop (fun μ i => cDo T S d μ (cT_rows (T, S, μ) ((t * 3 + z) * 4 + i)) a k) (cLen (T, S, μ) t a z) 0 μ).2 from by rw [dBelow]; exact if_pos h0]
    exact ih (z + 1) _ (by omega) H locs ls hP hS (lv_sub hl [0, 1, 2, 3, 4, 5] rfl)

set_option maxHeartbeats 4000000 in
set_option maxRecDepth 100000 in
/-- doBelow -/
theorem k_W_doBelow (l : Launch) (K : zK) (G : Nat → Nat) (A : Nat → Prop) (hD : ∀ σ, va_D A (cW K G σ)) (T : cTS) (S : cAS) (d dp : Nat) (hdo : cDoing l K G A T S d (dp + 1)) (μ : cMu) (t a k : Nat) (ht : t < 20) (ha : a < 8) (hk : k < 16) (hdp : dp < 100) (hB : ∀ μ, cB (T, S, μ)) : zMet l K A zy_W_doBelow zws_W_doBelow (2 * d + 7) [.ref (G 0), .int (nI t), .int (nI a), .int (nI k), .int (nI dp)] (cW K G (T, S, μ)) (cW K G (T, S, (dBelow (fun μ z i => cDo T S d μ (cT_rows (T, S, μ) ((t * 3 + z) * 4 + i)) a k) (cLen (T, S, μ) t a) 3 0 μ).2)) (some (.int (dBelow (fun μ z i => cDo T S d μ (cT_rows (T, S, μ) ((t * 3 + z) * 4 + i)) a k) (cLen (T, S, μ) t a) 3 0 μ).1)) := by
  refine z_entry (by decide) (Nat.le_of_ble_eq_true rfl) ?_
  intro p e s m below meth c ls X hr hml hlocks hP hl
  have hS : va_S A s.heap s.heap [] := va_S.rf
  have hl : lv_has ls 9 [(0, .ref (G 0)), (1, .int (nI t)), (2, .int (nI a)), (3, .int (nI k)), (4, .int (nI dp))] := hl
  refine lv_iconst (v := nI 0) X.1 X.2.1 zd_W_doBelow_0 (by decide) ?_
  refine lv_istore (lv' := [(5, .int (nI 0)), (0, .ref (G 0)), (1, .int (nI t)), (2, .int (nI a)), (3, .int (nI k)), (4, .int (nI dp))]) X.1 X.2.1 zd_W_doBelow_1 hl (by decide) rfl (fun ls hl => ?_)
  exact q_W_doBelow l K G A hD X hr hml hlocks T S d dp hdo t a k ht ha hk hdp hB μ 3 0 μ rfl s.heap [] ls hP hS (lv_sub hl [0, 1, 2, 3, 4, 5] rfl)

set_option maxHeartbeats 4000000 in
set_option maxRecDepth 100000 in
/-- doing: the group, by induction on the levels that are left -/
theorem k_W_doing (l : Launch) (K : zK) (G : Nat → Nat) (A : Nat → Prop) (hD : ∀ σ, va_D A (cW K G σ)) (T : cTS) (S : cAS) (hB : ∀ μ, cB (T, S, μ)) : ∀ (d dp : Nat), dp + d = 29 → cDoing l K G A T S d dp := by
  intro d
  induction d with
  | zero =>
    intro dp hdp μ t a k ht ha hk
    refine z_entry (by decide) (Nat.le_of_ble_eq_true rfl) ?_
    intro p e s m below meth c ls X hr hml hlocks hP hl
    have hS : va_S A s.heap s.heap [] := va_S.rf
    have hl : lv_has ls 8 [(0, .ref (G 0)), (1, .int (nI t)), (2, .int (nI a)), (3, .int (nI k)), (4, .int (nI dp))] := hl
    refine lv_iload X.1 X.2.1 zd_W_doing_0 (lv_at hl 4 rfl) ?_
    refine lv_bipush (v := nI 28) X.1 X.2.1 zd_W_doing_2 (by decide) ?_
    refine lv_icmp_le (tgt := 9) X.1 X.2.1 zd_W_doing_4 (by decide) (fun h9 => absurd h9 (by rw [nI_leI (by omega) (by omega)]; omega)) (fun _ => ?_)
    refine lv_iconst (v := -1) X.1 X.2.1 zd_W_doing_7 (by decide) ?_
    exact z_iret X.1 X.2.1 hr hlocks rfl rfl hP hS zd_W_doing_8
  | succ d ih =>
    intro dp hdp μ t a k ht ha hk
    have hdo : cDoing l K G A T S d (dp + 1) := ih (dp + 1) (by omega)
    refine z_entry (by decide) (Nat.le_of_ble_eq_true rfl) ?_
    intro p e s m below meth c ls X hr hml hlocks hP hl
    have hS : va_S A s.heap s.heap [] := va_S.rf
    have hl : lv_has ls 8 [(0, .ref (G 0)), (1, .int (nI t)), (2, .int (nI a)), (3, .int (nI k)), (4, .int (nI dp))] := hl
    refine lv_iload X.1 X.2.1 zd_W_doing_0 (lv_at hl 4 rfl) ?_
    refine lv_bipush (v := nI 28) X.1 X.2.1 zd_W_doing_2 (by decide) ?_
    refine lv_icmp_le (tgt := 9) X.1 X.2.1 zd_W_doing_4 (by decide) (fun _ => ?_) (fun h9 => absurd (by rw [nI_leI (by omega) (by omega)]; omega) h9)
    refine lv_aload_n X.1 X.2.1 zd_W_doing_9 rfl (lv_at hl 0 rfl) ?_
    refine g_cW_memory X hP zd_W_doing_10 ?_
    refine lv_iload_n X.1 X.2.1 zd_W_doing_13 rfl (lv_at hl 1 rfl) ?_
    refine lv_iload_n X.1 X.2.1 zd_W_doing_14 rfl (lv_at hl 2 rfl) ?_
    refine lv_iload_n X.1 X.2.1 zd_W_doing_15 rfl (lv_at hl 3 rfl) ?_
    refine z_callVi (As := [.int (nI t), .int (nI a), .int (nI k)]) (rest := []) (q0 := 3) (ci := 2) X hml (k_M_known l K G A hD (T, S, μ) t a k (by omega) (by omega) (by omega)) (zk_W_98 X.2.2.2.1 (z_rm (by omega) (by decide))) rfl rfl rfl hP hS rfl hl.1 rfl (Nat.le_of_ble_eq_true rfl) zd_W_doing_16 ⟨Nat.zero_le _, Nat.zero_le _⟩ (fun H locs hP hS => ?_)
    refine lv_istore (lv' := [(5, .int (cKnown (T, S, μ) t a k)), (0, .ref (G 0)), (1, .int (nI t)), (2, .int (nI a)), (3, .int (nI k)), (4, .int (nI dp))]) X.1 X.2.1 zd_W_doing_19 hl (by decide) rfl (fun ls hl => ?_)
    refine lv_iload X.1 X.2.1 zd_W_doing_21 (lv_at hl 0 rfl) ?_
    refine lv_iconst (v := -1) X.1 X.2.1 zd_W_doing_23 (by decide) ?_
    refine lv_icmp_eq (tgt := 30) X.1 X.2.1 zd_W_doing_24 (by decide) (fun c1 => ?_) (fun c1 => ?_)
    · refine lv_aload_n X.1 X.2.1 zd_W_doing_30 rfl (lv_at hl 1 rfl) ?_
      refine lv_iload_n X.1 X.2.1 zd_W_doing_31 rfl (lv_at hl 2 rfl) ?_
      refine lv_iload_n X.1 X.2.1 zd_W_doing_32 rfl (lv_at hl 3 rfl) ?_
      refine lv_iload_n X.1 X.2.1 zd_W_doing_33 rfl (lv_at hl 4 rfl) ?_
      refine lv_iload X.1 X.2.1 zd_W_doing_34 (lv_at hl 5 rfl) ?_
      refine z_callVi (As := [.int (nI t), .int (nI a), .int (nI k), .int (nI dp)]) (rest := []) (q0 := 0) (ci := 3) X hml (k_W_doNeeds l K G A hD T S d dp hdo μ t a k ht ha hk (by omega) hB) (zk_W_129 X.2.2.2.1 (z_rm (by omega) (by decide))) rfl rfl rfl hP hS rfl hl.1 rfl (Nat.le_of_ble_eq_true rfl) zd_W_doing_36 ⟨Nat.zero_le _, Nat.zero_le _⟩ (fun H locs hP hS => ?_)
      refine lv_istore (lv' := [(6, .int ((dLoop (fun μ i => cDo T S d μ t (cA_needs (T, S, μ) (a * 3 + i)) k) (cA_needCounts (T, S, μ) a) 0 μ).1)), (5, .int (cKnown (T, S, μ) t a k)), (0, .ref (G 0)), (1, .int (nI t)), (2, .int (nI a)), (3, .int (nI k)), (4, .int (nI dp))]) X.1 X.2.1 zd_W_doing_39 hl (by decide) rfl (fun ls hl => ?_)
      refine lv_iload X.1 X.2.1 zd_W_doing_41 (lv_at hl 0 rfl) ?_
      refine lv_if_ge (tgt := 49) X.1 X.2.1 zd_W_doing_43 (by decide) (fun c2 => ?_) (fun c2 => ?_)
      · refine lv_aload_n X.1 X.2.1 zd_W_doing_49 rfl (lv_at hl 2 rfl) ?_
        refine lv_iload_n X.1 X.2.1 zd_W_doing_50 rfl (lv_at hl 3 rfl) ?_
        refine lv_iload_n X.1 X.2.1 zd_W_doing_51 rfl (lv_at hl 4 rfl) ?_
        refine lv_iload_n X.1 X.2.1 zd_W_doing_52 rfl (lv_at hl 5 rfl) ?_
        refine z_callVi (As := [.int (nI t), .int (nI a), .int (nI k)]) (rest := []) (q0 := 0) (ci := 3) X hml (k_W_lacksProvider l K G A hD (T, S, (dLoop (fun μ i => cDo T S d μ t (cA_needs (T, S, μ) (a * 3 + i)) k) (cA_needCounts (T, S, μ) a) 0 μ).2) t a k ht ha hk (hB _)) (zk_W_132 X.2.2.2.1 (z_rm (by omega) (by decide))) rfl rfl rfl hP hS rfl hl.1 rfl (Nat.le_of_ble_eq_true rfl) zd_W_doing_53 ⟨Nat.zero_le _, Nat.zero_le _⟩ (fun H locs hP hS => ?_)
        refine lv_if_eq (tgt := 71) X.1 X.2.1 zd_W_doing_56 (by decide) (fun c3 => ?_) (fun c3 => ?_)
        · rw [z_eq0 (cLacks_lt _ _ _ _)] at c3
          refine lv_aload_n X.1 X.2.1 zd_W_doing_71 rfl (lv_at hl 2 rfl) ?_
          refine lv_iload_n X.1 X.2.1 zd_W_doing_72 rfl (lv_at hl 3 rfl) ?_
          refine lv_iload_n X.1 X.2.1 zd_W_doing_73 rfl (lv_at hl 4 rfl) ?_
          refine lv_iload_n X.1 X.2.1 zd_W_doing_74 rfl (lv_at hl 5 rfl) ?_
          refine lv_iload X.1 X.2.1 zd_W_doing_75 (lv_at hl 6 rfl) ?_
          refine z_callVi (As := [.int (nI t), .int (nI a), .int (nI k), .int (nI dp)]) (rest := []) (q0 := 0) (ci := 3) X hml (k_W_doBelow l K G A hD T S d dp hdo ((dLoop (fun μ i => cDo T S d μ t (cA_needs (T, S, μ) (a * 3 + i)) k) (cA_needCounts (T, S, μ) a) 0 μ).2) t a k ht ha hk (by omega) hB) (zk_W_139 X.2.2.2.1 (z_rm (by omega) (by decide))) rfl rfl rfl hP hS rfl hl.1 rfl (Nat.le_of_ble_eq_true rfl) zd_W_doing_77 ⟨Nat.zero_le _, Nat.zero_le _⟩ (fun H locs hP hS => ?_)
          refine lv_istore (lv' := [(7, .int ((dBelow (fun μ z i => cDo T S d μ (cT_rows (T, S, μ) ((t * 3 + z) * 4 + i)) a k) (cLen (T, S, μ) t a) 3 0 (dLoop (fun μ i => cDo T S d μ t (cA_needs (T, S, μ) (a * 3 + i)) k) (cA_needCounts (T, S, μ) a) 0 μ).2).1)), (6, .int ((dLoop (fun μ i => cDo T S d μ t (cA_needs (T, S, μ) (a * 3 + i)) k) (cA_needCounts (T, S, μ) a) 0 μ).1)), (5, .int (cKnown (T, S, μ) t a k)), (0, .ref (G 0)), (1, .int (nI t)), (2, .int (nI a)), (3, .int (nI k)), (4, .int (nI dp))]) X.1 X.2.1 zd_W_doing_80 hl (by decide) rfl (fun ls hl => ?_)
          refine lv_iload X.1 X.2.1 zd_W_doing_82 (lv_at hl 0 rfl) ?_
          refine lv_if_ge (tgt := 90) X.1 X.2.1 zd_W_doing_84 (by decide) (fun c4 => ?_) (fun c4 => ?_)
          · refine lv_aload_n X.1 X.2.1 zd_W_doing_90 rfl (lv_at hl 3 rfl) ?_
            refine lv_iload_n X.1 X.2.1 zd_W_doing_91 rfl (lv_at hl 4 rfl) ?_
            refine lv_iload_n X.1 X.2.1 zd_W_doing_92 rfl (lv_at hl 5 rfl) ?_
            refine lv_iload_n X.1 X.2.1 zd_W_doing_93 rfl (lv_at hl 6 rfl) ?_
            refine z_callVi (As := [.int (nI t), .int (nI a), .int (nI k)]) (rest := []) (q0 := 0) (ci := 3) X hml (k_W_makeOutput l K G A hD (T, S, (dBelow (fun μ z i => cDo T S d μ (cT_rows (T, S, μ) ((t * 3 + z) * 4 + i)) a k) (cLen (T, S, μ) t a) 3 0 (dLoop (fun μ i => cDo T S d μ t (cA_needs (T, S, μ) (a * 3 + i)) k) (cA_needCounts (T, S, μ) a) 0 μ).2).2) t a k ht ha hk (hB _)) (zk_W_142 X.2.2.2.1 (z_rm (by omega) (by decide))) rfl rfl rfl hP hS rfl hl.1 rfl (Nat.le_of_ble_eq_true rfl) zd_W_doing_94 ⟨Nat.zero_le _, Nat.zero_le _⟩ (fun H locs hP hS => ?_)
            have hBm : cB ((cMake (T, S, (dBelow (fun μ z i => cDo T S d μ (cT_rows (T, S, μ) ((t * 3 + z) * 4 + i)) a k) (cLen (T, S, μ) t a) 3 0 (dLoop (fun μ i => cDo T S d μ t (cA_needs (T, S, μ) (a * 3 + i)) k) (cA_needCounts (T, S, μ) a) 0 μ).2).2) t a k).2) := by rw [cMake_eta]; exact hB _
            refine lv_if_ne (tgt := 103) X.1 X.2.1 zd_W_doing_97 (by decide) (fun c5 => ?_) (fun c5 => ?_)
            · rw [z_eq0 (cMake_lt _ _ _ _)] at c5
              refine lv_aload_n X.1 X.2.1 zd_W_doing_103 rfl (lv_at hl 3 rfl) ?_
              refine g_cW_memory X hP zd_W_doing_104 ?_
              refine lv_iload_n X.1 X.2.1 zd_W_doing_107 rfl (lv_at hl 4 rfl) ?_
              refine lv_iload_n X.1 X.2.1 zd_W_doing_108 rfl (lv_at hl 5 rfl) ?_
              refine lv_iload_n X.1 X.2.1 zd_W_doing_109 rfl (lv_at hl 6 rfl) ?_
              refine lv_aload_n X.1 X.2.1 zd_W_doing_110 rfl (lv_at hl 3 rfl) ?_
              refine lv_iload_n X.1 X.2.1 zd_W_doing_111 rfl (lv_at hl 4 rfl) ?_
              refine lv_iload_n X.1 X.2.1 zd_W_doing_112 rfl (lv_at hl 5 rfl) ?_
              refine lv_iload_n X.1 X.2.1 zd_W_doing_113 rfl (lv_at hl 6 rfl) ?_
              refine z_callVl (As := [.int (nI t), .int (nI a), .int (nI k)]) (rest := [.int (nI k), .int (nI a), .int (nI t), .ref (G 3)]) (q0 := 0) (ci := 3) X hml (k_W_joined l K G A hD ((cMake (T, S, (dBelow (fun μ z i => cDo T S d μ (cT_rows (T, S, μ) ((t * 3 + z) * 4 + i)) a k) (cLen (T, S, μ) t a) 3 0 (dLoop (fun μ i => cDo T S d μ t (cA_needs (T, S, μ) (a * 3 + i)) k) (cA_needCounts (T, S, μ) a) 0 μ).2).2) t a k).2) t a k ht ha hk hBm) (zk_W_145 X.2.2.2.1 (z_rm (by omega) (by decide))) rfl rfl rfl hP hS rfl hl.1 rfl (Nat.le_of_ble_eq_true rfl) zd_W_doing_114 ⟨Nat.zero_le _, Nat.zero_le _⟩ (fun H locs hP hS => ?_)
              refine z_callVv (As := [.int (nI t), .int (nI a), .int (nI k), .long (cJoined ((cMake (T, S, (dBelow (fun μ z i => cDo T S d μ (cT_rows (T, S, μ) ((t * 3 + z) * 4 + i)) a k) (cLen (T, S, μ) t a) 3 0 (dLoop (fun μ i => cDo T S d μ t (cA_needs (T, S, μ) (a * 3 + i)) k) (cA_needCounts (T, S, μ) a) 0 μ).2).2) t a k).2) t a k)]) (rest := []) (q0 := 3) (ci := 2) X hml (k_M_keepDone l K G A hD ((cMake (T, S, (dBelow (fun μ z i => cDo T S d μ (cT_rows (T, S, μ) ((t * 3 + z) * 4 + i)) a k) (cLen (T, S, μ) t a) 3 0 (dLoop (fun μ i => cDo T S d μ t (cA_needs (T, S, μ) (a * 3 + i)) k) (cA_needCounts (T, S, μ) a) 0 μ).2).2) t a k).2) t a k (cJoined ((cMake (T, S, (dBelow (fun μ z i => cDo T S d μ (cT_rows (T, S, μ) ((t * 3 + z) * 4 + i)) a k) (cLen (T, S, μ) t a) 3 0 (dLoop (fun μ i => cDo T S d μ t (cA_needs (T, S, μ) (a * 3 + i)) k) (cA_needCounts (T, S, μ) a) 0 μ).2).2) t a k).2) t a k) ht ha hk) (zk_W_148 X.2.2.2.1 (z_rm (by omega) (by decide))) rfl rfl rfl hP hS rfl hl.1 rfl (Nat.le_of_ble_eq_true rfl) zd_W_doing_117 ⟨Nat.zero_le _, Nat.zero_le _⟩ (fun H locs hP hS => ?_)
              refine lv_iconst (v := nI 1) X.1 X.2.1 zd_W_doing_120 (by decide) ?_
              rw [show cDo T S (d + 1) μ t a k = _ from by rw [cDo, if_pos c1, if_pos c2, if_pos c3, if_pos c4, cFin, if_neg c5]]
              exact z_iret X.1 X.2.1 hr hlocks rfl (by rw [cMake_eta]; try rfl) hP hS zd_W_doing_121
            · rw [z_eq0 (cMake_lt _ _ _ _)] at c5
              refine lv_bipush (v := -2) X.1 X.2.1 zd_W_doing_100 (by decide) ?_
              rw [show cDo T S (d + 1) μ t a k = _ from by rw [cDo, if_pos c1, if_pos c2, if_pos c3, if_pos c4, cFin, if_pos c5]]
              exact z_iret X.1 X.2.1 hr hlocks rfl (by rw [cMake_eta]; try rfl) hP hS zd_W_doing_102
          · refine lv_iload X.1 X.2.1 zd_W_doing_87 (lv_at hl 0 rfl) ?_
            rw [show cDo T S (d + 1) μ t a k = _ from by rw [cDo, if_pos c1, if_pos c2, if_pos c3, if_neg c4]]
            exact z_iret X.1 X.2.1 hr hlocks rfl rfl hP hS zd_W_doing_89
        · rw [z_eq0 (cLacks_lt _ _ _ _)] at c3
          refine lv_aload_n X.1 X.2.1 zd_W_doing_59 rfl (lv_at hl 2 rfl) ?_
          refine g_cW_memory X hP zd_W_doing_60 ?_
          refine lv_iload_n X.1 X.2.1 zd_W_doing_63 rfl (lv_at hl 3 rfl) ?_
          refine lv_iload_n X.1 X.2.1 zd_W_doing_64 rfl (lv_at hl 4 rfl) ?_
          refine lv_iload_n X.1 X.2.1 zd_W_doing_65 rfl (lv_at hl 5 rfl) ?_
          refine z_callVv (As := [.int (nI t), .int (nI a), .int (nI k)]) (rest := []) (q0 := 3) (ci := 2) X hml (k_M_keepPassed l K G A hD (T, S, (dLoop (fun μ i => cDo T S d μ t (cA_needs (T, S, μ) (a * 3 + i)) k) (cA_needCounts (T, S, μ) a) 0 μ).2) t a k ht ha hk) (zk_W_135 X.2.2.2.1 (z_rm (by omega) (by decide))) rfl rfl rfl hP hS rfl hl.1 rfl (Nat.le_of_ble_eq_true rfl) zd_W_doing_66 ⟨Nat.zero_le _, Nat.zero_le _⟩ (fun H locs hP hS => ?_)
          refine lv_iconst (v := nI 0) X.1 X.2.1 zd_W_doing_69 (by decide) ?_
          rw [show cDo T S (d + 1) μ t a k = _ from by rw [cDo, if_pos c1, if_pos c2, if_neg c3]]
          exact z_iret X.1 X.2.1 hr hlocks rfl rfl hP hS zd_W_doing_70
      · refine lv_iload X.1 X.2.1 zd_W_doing_46 (lv_at hl 0 rfl) ?_
        rw [show cDo T S (d + 1) μ t a k = _ from by rw [cDo, if_pos c1, if_neg c2]]
        exact z_iret X.1 X.2.1 hr hlocks rfl rfl hP hS zd_W_doing_48
    · refine lv_iload X.1 X.2.1 zd_W_doing_27 (lv_at hl 0 rfl) ?_
      rw [show cDo T S (d + 1) μ t a k = _ from by rw [cDo, if_neg c1]]
      exact z_iret X.1 X.2.1 hr hlocks rfl rfl hP hS zd_W_doing_29

