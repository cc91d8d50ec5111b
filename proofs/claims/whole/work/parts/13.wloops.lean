/-! contracts of the class's helpers with loops that only read (by program: wip/gen/wloops.py) -/
set_option maxHeartbeats 4000000 in
set_option maxRecDepth 100000 in
/-- lacksProvider's loop -/
theorem q_W_lacksProvider {p : Program} {e : Env} {s : State} {m : MethodId} {args : Array Value} {below : List Frame} {meth : Method} {c : Code} (l : Launch) (K : zK) (G : Nat → Nat) (A : Nat → Prop) (hD : ∀ σ, va_D A (cW K G σ)) (X : zFx K zR_W zb_W_lacksProvider p s m args c) (hr : meth.sig.returnType = (some .boolean)) (hml : c.maxLocals = 7) (hlocks : meth.locks = false) (σ : cS) (t a k : Nat) (ht : t < 20) (ha : a < 8) (hk : k < 16) (hB : cB σ) : ∀ (j i : Nat), i + j = cA_needCounts σ a → ∀ (H : Heap) (locs : List Loc) (ls : Array Slot), va_P K.1 zcl (cW K G σ) H → va_S A s.heap H locs → lv_has ls 7 [(5, .int (nI i)), (4, .int (cOffer σ t a k i)), (0, .ref (G 0)), (1, .int (nI t)), (2, .int (nI a)), (3, .int (nI k))] → W p l e (zrm 2) s m args below meth c H locs 0 0 (MQ below (zPost K A (cW K G σ) (some (.int (nI (cLacks σ t a k))))) args s 0 0 A) (F0 m 13 ls []) := by
  intro j
  induction j with
  | zero =>
    intro i hi H locs ls hP hS hl
    have hB1 := hB.2.2.2.2.2.1 (a * 3 + i)
    have hB2 := hB.2.2.2.2.2.2.1 a
    have hB3 := hB.2.2.2.2.2.2.2.1 a
    refine lv_iload X.1 X.2.1 zd_W_lacksProvider_13 (lv_at hl 0 rfl) ?_
    refine lv_aload_n X.1 X.2.1 zd_W_lacksProvider_15 rfl (lv_at hl 2 rfl) ?_
    refine g_cW_aspects X hP zd_W_lacksProvider_16 ?_
    refine lv_iload_n X.1 X.2.1 zd_W_lacksProvider_19 rfl (lv_at hl 4 rfl) ?_
    refine z_callVi (As := [.int (nI a)]) (rest := [.int (nI i)]) (q0 := 2) (ci := 1) X hml (k_A_needCount l K G A hD σ a (by omega)) (zk_W_78 X.2.2.2.1 (z_rm (by omega) (by decide))) rfl rfl rfl hP hS rfl hl.1 rfl (Nat.le_of_ble_eq_true rfl) zd_W_lacksProvider_20 ⟨Nat.zero_le _, Nat.zero_le _⟩ (fun H locs hP hS => ?_)
    refine lv_icmp_ge (tgt := 73) X.1 X.2.1 zd_W_lacksProvider_23 (by decide) (fun _ => ?_) (fun h9 => absurd (by rw [nI_leI (by omega) (by omega)]; omega) h9)
    refine lv_aload_n X.1 X.2.1 zd_W_lacksProvider_73 rfl (lv_at hl 2 rfl) ?_
    refine g_cW_aspects X hP zd_W_lacksProvider_74 ?_
    refine lv_iload_n X.1 X.2.1 zd_W_lacksProvider_77 rfl (lv_at hl 4 rfl) ?_
    refine z_callVi (As := [.int (nI a)]) (rest := []) (q0 := 2) (ci := 1) X hml (k_A_wantsOf l K G A hD σ a (by omega)) (zk_W_173 X.2.2.2.1 (z_rm (by omega) (by decide))) rfl rfl rfl hP hS rfl hl.1 rfl (Nat.le_of_ble_eq_true rfl) zd_W_lacksProvider_78 ⟨Nat.zero_le _, Nat.zero_le _⟩ (fun H locs hP hS => ?_)
    refine lv_iload X.1 X.2.1 zd_W_lacksProvider_81 (lv_at hl 1 rfl) ?_
    refine lv_iconst (v := -1) X.1 X.2.1 zd_W_lacksProvider_83 (by decide) ?_
    refine lv_ixor X.1 X.2.1 zd_W_lacksProvider_84 ?_
    refine lv_iand X.1 X.2.1 zd_W_lacksProvider_85 ?_
    refine lv_if_eq (tgt := 93) X.1 X.2.1 zd_W_lacksProvider_86 (by decide) (fun c1 => ?_) (fun c1 => ?_)
    · refine lv_iconst (v := nI 0) X.1 X.2.1 zd_W_lacksProvider_93 (by decide) ?_
      exact z_zret X.1 X.2.1 hr hlocks (Or.inl rfl) (by rw [cLacks, show cA_needCounts σ a = i by omega, if_pos c1]) rfl hP hS zd_W_lacksProvider_94
    · refine lv_iconst (v := nI 1) X.1 X.2.1 zd_W_lacksProvider_89 (by decide) ?_
      refine lv_goto (tgt := 94) X.1 X.2.1 zd_W_lacksProvider_90 (by decide) ?_
      exact z_zret X.1 X.2.1 hr hlocks (Or.inr rfl) (by rw [cLacks, show cA_needCounts σ a = i by omega, if_neg c1]) rfl hP hS zd_W_lacksProvider_94
  | succ j ih =>
    intro i hi H locs ls hP hS hl
    have hB1 := hB.2.2.2.2.2.1 (a * 3 + i)
    have hB2 := hB.2.2.2.2.2.2.1 a
    have hB3 := hB.2.2.2.2.2.2.2.1 a
    refine lv_iload X.1 X.2.1 zd_W_lacksProvider_13 (lv_at hl 0 rfl) ?_
    refine lv_aload_n X.1 X.2.1 zd_W_lacksProvider_15 rfl (lv_at hl 2 rfl) ?_
    refine g_cW_aspects X hP zd_W_lacksProvider_16 ?_
    refine lv_iload_n X.1 X.2.1 zd_W_lacksProvider_19 rfl (lv_at hl 4 rfl) ?_
    refine z_callVi (As := [.int (nI a)]) (rest := [.int (nI i)]) (q0 := 2) (ci := 1) X hml (k_A_needCount l K G A hD σ a (by omega)) (zk_W_78 X.2.2.2.1 (z_rm (by omega) (by decide))) rfl rfl rfl hP hS rfl hl.1 rfl (Nat.le_of_ble_eq_true rfl) zd_W_lacksProvider_20 ⟨Nat.zero_le _, Nat.zero_le _⟩ (fun H locs hP hS => ?_)
    refine lv_icmp_ge (tgt := 73) X.1 X.2.1 zd_W_lacksProvider_23 (by decide) (fun h9 => absurd h9 (by rw [nI_leI (by omega) (by omega)]; omega)) (fun _ => ?_)
    refine lv_aload_n X.1 X.2.1 zd_W_lacksProvider_26 rfl (lv_at hl 2 rfl) ?_
    refine g_cW_aspects X hP zd_W_lacksProvider_27 ?_
    refine lv_iload_n X.1 X.2.1 zd_W_lacksProvider_30 rfl (lv_at hl 4 rfl) ?_
    refine lv_iload X.1 X.2.1 zd_W_lacksProvider_31 (lv_at hl 0 rfl) ?_
    refine z_callVi (As := [.int (nI a), .int (nI i)]) (rest := []) (q0 := 2) (ci := 1) X hml (k_A_needAt l K G A hD σ a i (by omega) (by omega)) (zk_W_152 X.2.2.2.1 (z_rm (by omega) (by decide))) rfl rfl rfl hP hS rfl hl.1 rfl (Nat.le_of_ble_eq_true rfl) zd_W_lacksProvider_33 ⟨Nat.zero_le _, Nat.zero_le _⟩ (fun H locs hP hS => ?_)
    refine lv_istore (lv' := [(6, .int (nI (cA_needs σ (a * 3 + i)))), (5, .int (nI i)), (4, .int (cOffer σ t a k i)), (0, .ref (G 0)), (1, .int (nI t)), (2, .int (nI a)), (3, .int (nI k))]) X.1 X.2.1 zd_W_lacksProvider_36 hl (by decide) rfl (fun ls hl => ?_)
    refine lv_aload_n X.1 X.2.1 zd_W_lacksProvider_38 rfl (lv_at hl 3 rfl) ?_
    refine g_cW_memory X hP zd_W_lacksProvider_39 ?_
    refine lv_iload_n X.1 X.2.1 zd_W_lacksProvider_42 rfl (lv_at hl 4 rfl) ?_
    refine lv_iload X.1 X.2.1 zd_W_lacksProvider_43 (lv_at hl 0 rfl) ?_
    refine lv_iload_n X.1 X.2.1 zd_W_lacksProvider_45 rfl (lv_at hl 6 rfl) ?_
    refine z_callVi (As := [.int (nI t), .int (nI (cA_needs σ (a * 3 + i))), .int (nI k)]) (rest := []) (q0 := 3) (ci := 2) X hml (k_M_known l K G A hD σ t (cA_needs σ (a * 3 + i)) k (by omega) (by omega) (by omega)) (zk_W_98 X.2.2.2.1 (z_rm (by omega) (by decide))) rfl rfl rfl hP hS rfl hl.1 rfl (Nat.le_of_ble_eq_true rfl) zd_W_lacksProvider_46 ⟨Nat.zero_le _, Nat.zero_le _⟩ (fun H locs hP hS => ?_)
    refine lv_iconst (v := nI 1) X.1 X.2.1 zd_W_lacksProvider_49 (by decide) ?_
    refine lv_icmp_ne (tgt := 67) X.1 X.2.1 zd_W_lacksProvider_50 (by decide) (fun c1 => ?_) (fun c1 => ?_)
    · refine lv_iinc (v := nI (i + 1)) (lv' := [(5, .int (nI (i + 1))), (6, .int (nI (cA_needs σ (a * 3 + i)))), (4, .int (cOffer σ t a k i)), (0, .ref (G 0)), (1, .int (nI t)), (2, .int (nI a)), (3, .int (nI k))]) X.1 X.2.1 zd_W_lacksProvider_67 hl (k := 1) rfl (nI_1 _) (by decide) rfl (fun ls hl => ?_)
      refine lv_goto (tgt := 13) X.1 X.2.1 zd_W_lacksProvider_70 (by decide) ?_
      exact ih (i + 1) (by omega) H locs ls hP hS (by rw [show cOffer σ t a k (i + 1) = cOffer σ t a k i from (by rw [cOffer]; simp [*])]; exact lv_sub hl [0, 2, 3, 4, 5, 6] rfl)
    · refine lv_iload X.1 X.2.1 zd_W_lacksProvider_53 (lv_at hl 2 rfl) ?_
      refine lv_aload_n X.1 X.2.1 zd_W_lacksProvider_55 rfl (lv_at hl 3 rfl) ?_
      refine g_cW_aspects X hP zd_W_lacksProvider_56 ?_
      refine lv_iload X.1 X.2.1 zd_W_lacksProvider_59 (lv_at hl 0 rfl) ?_
      refine z_callVi (As := [.int (nI (cA_needs σ (a * 3 + i)))]) (rest := [.int (cOffer σ t a k i)]) (q0 := 2) (ci := 1) X hml (k_A_givesOf l K G A hD σ (cA_needs σ (a * 3 + i)) (by omega)) (zk_W_170 X.2.2.2.1 (z_rm (by omega) (by decide))) rfl rfl rfl hP hS rfl hl.1 rfl (Nat.le_of_ble_eq_true rfl) zd_W_lacksProvider_61 ⟨Nat.zero_le _, Nat.zero_le _⟩ (fun H locs hP hS => ?_)
      refine lv_ior X.1 X.2.1 zd_W_lacksProvider_64 ?_
      refine lv_istore (lv' := [(4, .int ((cOffer σ t a k i) ||| (cA_gives σ (cA_needs σ (a * 3 + i))))), (6, .int (nI (cA_needs σ (a * 3 + i)))), (5, .int (nI i)), (0, .ref (G 0)), (1, .int (nI t)), (2, .int (nI a)), (3, .int (nI k))]) X.1 X.2.1 zd_W_lacksProvider_65 hl (by decide) rfl (fun ls hl => ?_)
      refine lv_iinc (v := nI (i + 1)) (lv' := [(5, .int (nI (i + 1))), (4, .int ((cOffer σ t a k i) ||| (cA_gives σ (cA_needs σ (a * 3 + i))))), (6, .int (nI (cA_needs σ (a * 3 + i)))), (0, .ref (G 0)), (1, .int (nI t)), (2, .int (nI a)), (3, .int (nI k))]) X.1 X.2.1 zd_W_lacksProvider_67 hl (k := 2) rfl (nI_1 _) (by decide) rfl (fun ls hl => ?_)
      refine lv_goto (tgt := 13) X.1 X.2.1 zd_W_lacksProvider_70 (by decide) ?_
      exact ih (i + 1) (by omega) H locs ls hP hS (by rw [show cOffer σ t a k (i + 1) = (cOffer σ t a k i) ||| (cA_gives σ (cA_needs σ (a * 3 + i))) from (by rw [cOffer]; simp [*])]; exact lv_sub hl [0, 1, 3, 4, 5, 6] rfl)

set_option maxHeartbeats 4000000 in
set_option maxRecDepth 100000 in
/-- lacksProvider(t, a, k) -/
theorem k_W_lacksProvider (l : Launch) (K : zK) (G : Nat → Nat) (A : Nat → Prop) (hD : ∀ σ, va_D A (cW K G σ)) (σ : cS) (t a k : Nat) (ht : t < 20) (ha : a < 8) (hk : k < 16) (hB : cB σ) : zMet l K A zy_W_lacksProvider zws_W_lacksProvider 2 [.ref (G 0), .int (nI t), .int (nI a), .int (nI k)] (cW K G σ) (cW K G σ) (some (.int (nI (cLacks σ t a k)))) := by
  refine z_entry (by decide) (Nat.le_of_ble_eq_true rfl) ?_
  intro p e s m below meth c ls X hr hml hlocks hP hl
  have hS : va_S A s.heap s.heap [] := va_S.rf
  have hl : lv_has ls 7 [(0, .ref (G 0)), (1, .int (nI t)), (2, .int (nI a)), (3, .int (nI k))] := hl
  refine lv_aload_n X.1 X.2.1 zd_W_lacksProvider_0 rfl (lv_at hl 0 rfl) ?_
  refine g_cW_targets X hP zd_W_lacksProvider_1 ?_
  refine lv_iload_n X.1 X.2.1 zd_W_lacksProvider_4 rfl (lv_at hl 1 rfl) ?_
  refine z_callVi (As := [.int (nI t)]) (rest := []) (q0 := 1) (ci := 0) X hml (k_T_providersOf l K G A hD σ t (by omega)) (zk_W_167 X.2.2.2.1 (z_rm (by omega) (by decide))) rfl rfl rfl hP hS rfl hl.1 rfl (Nat.le_of_ble_eq_true rfl) zd_W_lacksProvider_5 ⟨Nat.zero_le _, Nat.zero_le _⟩ (fun H locs hP hS => ?_)
  refine lv_istore (lv' := [(4, .int (cT_providers σ t)), (0, .ref (G 0)), (1, .int (nI t)), (2, .int (nI a)), (3, .int (nI k))]) X.1 X.2.1 zd_W_lacksProvider_8 hl (by decide) rfl (fun ls hl => ?_)
  refine lv_iconst (v := nI 0) X.1 X.2.1 zd_W_lacksProvider_10 (by decide) ?_
  refine lv_istore (lv' := [(5, .int (nI 0)), (4, .int (cT_providers σ t)), (0, .ref (G 0)), (1, .int (nI t)), (2, .int (nI a)), (3, .int (nI k))]) X.1 X.2.1 zd_W_lacksProvider_11 hl (by decide) rfl (fun ls hl => ?_)
  exact q_W_lacksProvider l K G A hD X hr hml hlocks σ t a k ht ha hk hB (cA_needCounts σ a) 0 (Nat.zero_add _) H locs ls hP hS (lv_sub hl [0, 1, 2, 3, 4, 5] rfl)

set_option maxHeartbeats 4000000 in
set_option maxRecDepth 100000 in
/-- joinNeeds' loop -/
theorem q_W_joinNeeds {p : Program} {e : Env} {s : State} {m : MethodId} {args : Array Value} {below : List Frame} {meth : Method} {c : Code} (l : Launch) (K : zK) (G : Nat → Nat) (A : Nat → Prop) (hD : ∀ σ, va_D A (cW K G σ)) (X : zFx K zR_W zb_W_joinNeeds p s m args c) (hr : meth.sig.returnType = (some .long)) (hml : c.maxLocals = 10) (hlocks : meth.locks = false) (σ : cS) (kd : Nat) (x : Int64) (t a k : Nat) (ht : t < 20) (ha : a < 8) (hk : k < 16) (hB : cB σ) (hkd : kd ≤ 3) : ∀ (j i : Nat), i + j = cA_needCounts σ a → ∀ (H : Heap) (locs : List Loc) (ls : Array Slot), va_P K.1 zcl (cW K G σ) H → va_S A s.heap H locs → lv_has ls 10 [(9, .int (nI i)), (7, .long (cJN σ kd x t a k i)), (6, .int (nI kd)), (0, .ref (G 0)), (1, .long x), (3, .int (nI t)), (4, .int (nI a)), (5, .int (nI k))] → W p l e (zrm 3) s m args below meth c H locs 0 0 (MQ below (zPost K A (cW K G σ) (some (.long (cJN σ kd x t a k (cA_needCounts σ a))))) args s 0 0 A) (F0 m 17 ls []) := by
  intro j
  induction j with
  | zero =>
    intro i hi H locs ls hP hS hl
    have hB1 := hB.2.2.2.2.2.1 (a * 3 + i)
    have hB2 := hB.2.2.2.2.2.2.1 a
    have hB3 := hB.2.2.2.2.2.2.2.1 a
    refine lv_iload X.1 X.2.1 zd_W_joinNeeds_17 (lv_at hl 0 rfl) ?_
    refine lv_aload_n X.1 X.2.1 zd_W_joinNeeds_19 rfl (lv_at hl 3 rfl) ?_
    refine g_cW_aspects X hP zd_W_joinNeeds_20 ?_
    refine lv_iload X.1 X.2.1 zd_W_joinNeeds_23 (lv_at hl 6 rfl) ?_
    refine z_callVi (As := [.int (nI a)]) (rest := [.int (nI i)]) (q0 := 2) (ci := 1) X hml (k_A_needCount l K G A hD σ a (by omega)) (zk_W_78 X.2.2.2.1 (z_rm (by omega) (by decide))) rfl rfl rfl hP hS rfl hl.1 rfl (Nat.le_of_ble_eq_true rfl) zd_W_joinNeeds_25 ⟨Nat.zero_le _, Nat.zero_le _⟩ (fun H locs hP hS => ?_)
    refine lv_icmp_ge (tgt := 61) X.1 X.2.1 zd_W_joinNeeds_28 (by decide) (fun _ => ?_) (fun h9 => absurd (by rw [nI_leI (by omega) (by omega)]; omega) h9)
    refine lv_lload X.1 X.2.1 zd_W_joinNeeds_61 (lv_at hl 1 rfl) ?_
    exact z_lret X.1 X.2.1 hr hlocks (by rw [show i = cA_needCounts σ a by omega]) rfl hP hS zd_W_joinNeeds_63
  | succ j ih =>
    intro i hi H locs ls hP hS hl
    have hB1 := hB.2.2.2.2.2.1 (a * 3 + i)
    have hB2 := hB.2.2.2.2.2.2.1 a
    have hB3 := hB.2.2.2.2.2.2.2.1 a
    refine lv_iload X.1 X.2.1 zd_W_joinNeeds_17 (lv_at hl 0 rfl) ?_
    refine lv_aload_n X.1 X.2.1 zd_W_joinNeeds_19 rfl (lv_at hl 3 rfl) ?_
    refine g_cW_aspects X hP zd_W_joinNeeds_20 ?_
    refine lv_iload X.1 X.2.1 zd_W_joinNeeds_23 (lv_at hl 6 rfl) ?_
    refine z_callVi (As := [.int (nI a)]) (rest := [.int (nI i)]) (q0 := 2) (ci := 1) X hml (k_A_needCount l K G A hD σ a (by omega)) (zk_W_78 X.2.2.2.1 (z_rm (by omega) (by decide))) rfl rfl rfl hP hS rfl hl.1 rfl (Nat.le_of_ble_eq_true rfl) zd_W_joinNeeds_25 ⟨Nat.zero_le _, Nat.zero_le _⟩ (fun H locs hP hS => ?_)
    refine lv_icmp_ge (tgt := 61) X.1 X.2.1 zd_W_joinNeeds_28 (by decide) (fun h9 => absurd h9 (by rw [nI_leI (by omega) (by omega)]; omega)) (fun _ => ?_)
    refine lv_aload_n X.1 X.2.1 zd_W_joinNeeds_31 rfl (lv_at hl 3 rfl) ?_
    refine lv_iload X.1 X.2.1 zd_W_joinNeeds_32 (lv_at hl 2 rfl) ?_
    refine lv_lload X.1 X.2.1 zd_W_joinNeeds_34 (lv_at hl 1 rfl) ?_
    refine lv_iload_n X.1 X.2.1 zd_W_joinNeeds_36 rfl (lv_at hl 5 rfl) ?_
    refine lv_aload_n X.1 X.2.1 zd_W_joinNeeds_37 rfl (lv_at hl 3 rfl) ?_
    refine g_cW_aspects X hP zd_W_joinNeeds_38 ?_
    refine lv_iload X.1 X.2.1 zd_W_joinNeeds_41 (lv_at hl 6 rfl) ?_
    refine lv_iload X.1 X.2.1 zd_W_joinNeeds_43 (lv_at hl 0 rfl) ?_
    refine z_callVi (As := [.int (nI a), .int (nI i)]) (rest := [.int (nI t), .long (cJN σ kd x t a k i), .int (nI kd), .ref (G 0)]) (q0 := 2) (ci := 1) X hml (k_A_needAt l K G A hD σ a i (by omega) (by omega)) (zk_W_152 X.2.2.2.1 (z_rm (by omega) (by decide))) rfl rfl rfl hP hS rfl hl.1 rfl (Nat.le_of_ble_eq_true rfl) zd_W_joinNeeds_45 ⟨Nat.zero_le _, Nat.zero_le _⟩ (fun H locs hP hS => ?_)
    refine lv_iload X.1 X.2.1 zd_W_joinNeeds_48 (lv_at hl 7 rfl) ?_
    refine z_callVl (As := [.int (nI kd), .long (cJN σ kd x t a k i), .int (nI t), .int (nI (cA_needs σ (a * 3 + i))), .int (nI k)]) (rest := []) (q0 := 0) (ci := 3) X hml (k_W_joinPart l K G A hD σ kd (cJN σ kd x t a k i) t (cA_needs σ (a * 3 + i)) k (by omega) (by omega) (by omega) (by omega)) (zk_W_200 X.2.2.2.1 (z_rm (by omega) (by decide))) rfl rfl rfl hP hS rfl hl.1 rfl (Nat.le_of_ble_eq_true rfl) zd_W_joinNeeds_50 ⟨Nat.zero_le _, Nat.zero_le _⟩ (fun H locs hP hS => ?_)
    refine lv_lstore (lv' := [(7, .long (cJoinPart σ kd (cJN σ kd x t a k i) t (cA_needs σ (a * 3 + i)) k)), (9, .int (nI i)), (6, .int (nI kd)), (0, .ref (G 0)), (1, .long x), (3, .int (nI t)), (4, .int (nI a)), (5, .int (nI k))]) X.1 X.2.1 zd_W_joinNeeds_53 hl (by decide) rfl (fun ls hl => ?_)
    refine lv_iinc (v := nI (i + 1)) (lv' := [(9, .int (nI (i + 1))), (7, .long (cJoinPart σ kd (cJN σ kd x t a k i) t (cA_needs σ (a * 3 + i)) k)), (6, .int (nI kd)), (0, .ref (G 0)), (1, .long x), (3, .int (nI t)), (4, .int (nI a)), (5, .int (nI k))]) X.1 X.2.1 zd_W_joinNeeds_55 hl (k := 1) rfl (nI_1 _) (by decide) rfl (fun ls hl => ?_)
    refine lv_goto (tgt := 17) X.1 X.2.1 zd_W_joinNeeds_58 (by decide) ?_
    exact ih (i + 1) (by omega) H locs ls hP hS (lv_sub hl [0, 1, 2, 3, 4, 5, 6, 7] rfl)

set_option maxHeartbeats 4000000 in
set_option maxRecDepth 100000 in
/-- joinNeeds(x, t, a, k) -/
theorem k_W_joinNeeds (l : Launch) (K : zK) (G : Nat → Nat) (A : Nat → Prop) (hD : ∀ σ, va_D A (cW K G σ)) (σ : cS) (x : Int64) (t a k : Nat) (ht : t < 20) (ha : a < 8) (hk : k < 16) (hB : cB σ) : zMet l K A zy_W_joinNeeds zws_W_joinNeeds 3 [.ref (G 0), .long x, .int (nI t), .int (nI a), .int (nI k)] (cW K G σ) (cW K G σ) (some (.long (cJN σ (cA_kinds σ a) x t a k (cA_needCounts σ a)))) := by
  refine z_entry (by decide) (Nat.le_of_ble_eq_true rfl) ?_
  intro p e s m below meth c ls X hr hml hlocks hP hl
  have hS : va_S A s.heap s.heap [] := va_S.rf
  have hl : lv_has ls 10 [(0, .ref (G 0)), (1, .long x), (3, .int (nI t)), (4, .int (nI a)), (5, .int (nI k))] := hl
  refine lv_aload_n X.1 X.2.1 zd_W_joinNeeds_0 rfl (lv_at hl 0 rfl) ?_
  refine g_cW_aspects X hP zd_W_joinNeeds_1 ?_
  refine lv_iload X.1 X.2.1 zd_W_joinNeeds_4 (lv_at hl 3 rfl) ?_
  refine z_callVi (As := [.int (nI a)]) (rest := []) (q0 := 2) (ci := 1) X hml (k_A_kindOf l K G A hD σ a (by omega)) (zk_W_186 X.2.2.2.1 (z_rm (by omega) (by decide))) rfl rfl rfl hP hS rfl hl.1 rfl (Nat.le_of_ble_eq_true rfl) zd_W_joinNeeds_6 ⟨Nat.zero_le _, Nat.zero_le _⟩ (fun H locs hP hS => ?_)
  refine lv_istore (lv' := [(6, .int (nI (cA_kinds σ a))), (0, .ref (G 0)), (1, .long x), (3, .int (nI t)), (4, .int (nI a)), (5, .int (nI k))]) X.1 X.2.1 zd_W_joinNeeds_9 hl (by decide) rfl (fun ls hl => ?_)
  refine lv_lload_n X.1 X.2.1 zd_W_joinNeeds_11 rfl (lv_at hl 2 rfl) ?_
  refine lv_lstore (lv' := [(7, .long x), (6, .int (nI (cA_kinds σ a))), (0, .ref (G 0)), (1, .long x), (3, .int (nI t)), (4, .int (nI a)), (5, .int (nI k))]) X.1 X.2.1 zd_W_joinNeeds_12 hl (by decide) rfl (fun ls hl => ?_)
  refine lv_iconst (v := nI 0) X.1 X.2.1 zd_W_joinNeeds_14 (by decide) ?_
  refine lv_istore (lv' := [(9, .int (nI 0)), (7, .long x), (6, .int (nI (cA_kinds σ a))), (0, .ref (G 0)), (1, .long x), (3, .int (nI t)), (4, .int (nI a)), (5, .int (nI k))]) X.1 X.2.1 zd_W_joinNeeds_15 hl (by decide) rfl (fun ls hl => ?_)
  exact q_W_joinNeeds l K G A hD X hr hml hlocks σ _ x t a k ht ha hk hB (hB.2.2.2.2.2.2.2.1 a) (cA_needCounts σ a) 0 (Nat.zero_add _) H locs ls hP hS (lv_sub hl [0, 1, 2, 3, 4, 5, 6, 7] rfl)

set_option maxHeartbeats 4000000 in
set_option maxRecDepth 100000 in
/-- joinBelow's inner loop -/
theorem q_W_joinBelow_i {p : Program} {e : Env} {s : State} {m : MethodId} {args : Array Value} {below : List Frame} {meth : Method} {c : Code} {Q : State → Prop} (l : Launch) (K : zK) (G : Nat → Nat) (A : Nat → Prop) (hD : ∀ σ, va_D A (cW K G σ)) (X : zFx K zR_W zb_W_joinBelow p s m args c) (hr : meth.sig.returnType = (some .long)) (hml : c.maxLocals = 13) (hlocks : meth.locks = false) (σ : cS) (kd : Nat) (x y : Int64) (t a k z : Nat) (ht : t < 20) (ha : a < 8) (hk : k < 16) (hz : z < 3) (hB : cB σ) (hkd : kd ≤ 3) (kont : ∀ (H : Heap) (locs : List Loc) (ls : Array Slot), va_P K.1 zcl (cW K G σ) H → va_S A s.heap H locs → lv_has ls 13 [(7, .long (cJBi σ kd y t a k z (cLen σ t a z))), (9, .int (nI z)), (6, .int (nI kd)), (0, .ref (G 0)), (1, .long x), (3, .int (nI t)), (4, .int (nI a)), (5, .int (nI k))] → W p l e (zrm 3) s m args below meth c H locs 0 0 Q (F0 m 80 ls [])) : ∀ (j i : Nat), i + j = cLen σ t a z → ∀ (H : Heap) (locs : List Loc) (ls : Array Slot), va_P K.1 zcl (cW K G σ) H → va_S A s.heap H locs → lv_has ls 13 [(11, .int (nI i)), (7, .long (cJBi σ kd y t a k z i)), (10, .int (nI (cLen σ t a z))), (9, .int (nI z)), (6, .int (nI kd)), (0, .ref (G 0)), (1, .long x), (3, .int (nI t)), (4, .int (nI a)), (5, .int (nI k))] → W p l e (zrm 3) s m args below meth c H locs 0 0 Q (F0 m 37 ls []) := by
  intro j
  induction j with
  | zero =>
    intro i hi H locs ls hP hS hl
    have hB1 := hB.2.2.2.1 ((t * 3 + z) * 4 + i)
    have hB2 := cLen_le hB t a z
    refine lv_iload X.1 X.2.1 zd_W_joinBelow_37 (lv_at hl 0 rfl) ?_
    refine lv_iload X.1 X.2.1 zd_W_joinBelow_39 (lv_at hl 2 rfl) ?_
    refine lv_icmp_ge (tgt := 80) X.1 X.2.1 zd_W_joinBelow_41 (by decide) (fun _ => ?_) (fun h9 => absurd (by rw [nI_leI (by omega) (by omega)]; omega) h9)
    exact kont H locs ls hP hS (by have h9 := hl; rw [show i = cLen σ t a z by omega] at h9; exact lv_sub h9 [1, 3, 4, 5, 6, 7, 8, 9] rfl)
  | succ j ih =>
    intro i hi H locs ls hP hS hl
    have hB1 := hB.2.2.2.1 ((t * 3 + z) * 4 + i)
    have hB2 := cLen_le hB t a z
    refine lv_iload X.1 X.2.1 zd_W_joinBelow_37 (lv_at hl 0 rfl) ?_
    refine lv_iload X.1 X.2.1 zd_W_joinBelow_39 (lv_at hl 2 rfl) ?_
    refine lv_icmp_ge (tgt := 80) X.1 X.2.1 zd_W_joinBelow_41 (by decide) (fun h9 => absurd h9 (by rw [nI_leI (by omega) (by omega)]; omega)) (fun _ => ?_)
    refine lv_aload_n X.1 X.2.1 zd_W_joinBelow_44 rfl (lv_at hl 5 rfl) ?_
    refine g_cW_targets X hP zd_W_joinBelow_45 ?_
    refine lv_iload_n X.1 X.2.1 zd_W_joinBelow_48 rfl (lv_at hl 7 rfl) ?_
    refine lv_iload X.1 X.2.1 zd_W_joinBelow_49 (lv_at hl 3 rfl) ?_
    refine lv_iload X.1 X.2.1 zd_W_joinBelow_51 (lv_at hl 0 rfl) ?_
    refine z_callVi (As := [.int (nI t), .int (nI z), .int (nI i)]) (rest := []) (q0 := 1) (ci := 0) X hml (k_T_rowAt l K G A hD σ t z i (by omega) (by omega) (by omega)) (zk_W_158 X.2.2.2.1 (z_rm (by omega) (by decide))) rfl rfl rfl hP hS rfl hl.1 rfl (Nat.le_of_ble_eq_true rfl) zd_W_joinBelow_53 ⟨Nat.zero_le _, Nat.zero_le _⟩ (fun H locs hP hS => ?_)
    refine lv_istore (lv' := [(12, .int (nI (cT_rows σ ((t * 3 + z) * 4 + i)))), (11, .int (nI i)), (7, .long (cJBi σ kd y t a k z i)), (10, .int (nI (cLen σ t a z))), (9, .int (nI z)), (6, .int (nI kd)), (0, .ref (G 0)), (1, .long x), (3, .int (nI t)), (4, .int (nI a)), (5, .int (nI k))]) X.1 X.2.1 zd_W_joinBelow_56 hl (by decide) rfl (fun ls hl => ?_)
    refine lv_aload_n X.1 X.2.1 zd_W_joinBelow_58 rfl (lv_at hl 6 rfl) ?_
    refine lv_iload X.1 X.2.1 zd_W_joinBelow_59 (lv_at hl 5 rfl) ?_
    refine lv_lload X.1 X.2.1 zd_W_joinBelow_61 (lv_at hl 2 rfl) ?_
    refine lv_iload X.1 X.2.1 zd_W_joinBelow_63 (lv_at hl 0 rfl) ?_
    refine lv_iload X.1 X.2.1 zd_W_joinBelow_65 (lv_at hl 9 rfl) ?_
    refine lv_iload X.1 X.2.1 zd_W_joinBelow_67 (lv_at hl 10 rfl) ?_
    refine z_callVl (As := [.int (nI kd), .long (cJBi σ kd y t a k z i), .int (nI (cT_rows σ ((t * 3 + z) * 4 + i))), .int (nI a), .int (nI k)]) (rest := []) (q0 := 0) (ci := 3) X hml (k_W_joinPart l K G A hD σ kd (cJBi σ kd y t a k z i) (cT_rows σ ((t * 3 + z) * 4 + i)) a k (by omega) (by omega) (by omega) (by omega)) (zk_W_200 X.2.2.2.1 (z_rm (by omega) (by decide))) rfl rfl rfl hP hS rfl hl.1 rfl (Nat.le_of_ble_eq_true rfl) zd_W_joinBelow_69 ⟨Nat.zero_le _, Nat.zero_le _⟩ (fun H locs hP hS => ?_)
    refine lv_lstore (lv' := [(7, .long (cJoinPart σ kd (cJBi σ kd y t a k z i) (cT_rows σ ((t * 3 + z) * 4 + i)) a k)), (12, .int (nI (cT_rows σ ((t * 3 + z) * 4 + i)))), (11, .int (nI i)), (10, .int (nI (cLen σ t a z))), (9, .int (nI z)), (6, .int (nI kd)), (0, .ref (G 0)), (1, .long x), (3, .int (nI t)), (4, .int (nI a)), (5, .int (nI k))]) X.1 X.2.1 zd_W_joinBelow_72 hl (by decide) rfl (fun ls hl => ?_)
    refine lv_iinc (v := nI (i + 1)) (lv' := [(11, .int (nI (i + 1))), (7, .long (cJoinPart σ kd (cJBi σ kd y t a k z i) (cT_rows σ ((t * 3 + z) * 4 + i)) a k)), (12, .int (nI (cT_rows σ ((t * 3 + z) * 4 + i)))), (10, .int (nI (cLen σ t a z))), (9, .int (nI z)), (6, .int (nI kd)), (0, .ref (G 0)), (1, .long x), (3, .int (nI t)), (4, .int (nI a)), (5, .int (nI k))]) X.1 X.2.1 zd_W_joinBelow_74 hl (k := 2) rfl (nI_1 _) (by decide) rfl (fun ls hl => ?_)
    refine lv_goto (tgt := 37) X.1 X.2.1 zd_W_joinBelow_77 (by decide) ?_
    exact ih (i + 1) (by omega) H locs ls hP hS (lv_sub hl [0, 1, 3, 4, 5, 6, 7, 8, 9, 10] rfl)

set_option maxHeartbeats 4000000 in
set_option maxRecDepth 100000 in
/-- joinBelow's outer loop -/
theorem q_W_joinBelow {p : Program} {e : Env} {s : State} {m : MethodId} {args : Array Value} {below : List Frame} {meth : Method} {c : Code} (l : Launch) (K : zK) (G : Nat → Nat) (A : Nat → Prop) (hD : ∀ σ, va_D A (cW K G σ)) (X : zFx K zR_W zb_W_joinBelow p s m args c) (hr : meth.sig.returnType = (some .long)) (hml : c.maxLocals = 13) (hlocks : meth.locks = false) (σ : cS) (kd : Nat) (x : Int64) (t a k : Nat) (ht : t < 20) (ha : a < 8) (hk : k < 16) (hB : cB σ) (hkd : kd ≤ 3) : ∀ (j z : Nat), z + j = 3 → ∀ (H : Heap) (locs : List Loc) (ls : Array Slot), va_P K.1 zcl (cW K G σ) H → va_S A s.heap H locs → lv_has ls 13 [(9, .int (nI z)), (7, .long (cJB σ kd x t a k z)), (6, .int (nI kd)), (0, .ref (G 0)), (1, .long x), (3, .int (nI t)), (4, .int (nI a)), (5, .int (nI k))] → W p l e (zrm 3) s m args below meth c H locs 0 0 (MQ below (zPost K A (cW K G σ) (some (.long (cJB σ kd x t a k 3)))) args s 0 0 A) (F0 m 17 ls []) := by
  intro j
  induction j with
  | zero =>
    intro z hi H locs ls hP hS hl
    refine lv_iload X.1 X.2.1 zd_W_joinBelow_17 (lv_at hl 0 rfl) ?_
    refine lv_iconst (v := nI 3) X.1 X.2.1 zd_W_joinBelow_19 (by decide) ?_
    refine lv_icmp_ge (tgt := 86) X.1 X.2.1 zd_W_joinBelow_20 (by decide) (fun _ => ?_) (fun h9 => absurd (by rw [nI_leI (by omega) (by omega)]; omega) h9)
    refine lv_lload X.1 X.2.1 zd_W_joinBelow_86 (lv_at hl 1 rfl) ?_
    exact z_lret X.1 X.2.1 hr hlocks (by rw [show z = 3 by omega]) rfl hP hS zd_W_joinBelow_88
  | succ j ih =>
    intro z hi H locs ls hP hS hl
    refine lv_iload X.1 X.2.1 zd_W_joinBelow_17 (lv_at hl 0 rfl) ?_
    refine lv_iconst (v := nI 3) X.1 X.2.1 zd_W_joinBelow_19 (by decide) ?_
    refine lv_icmp_ge (tgt := 86) X.1 X.2.1 zd_W_joinBelow_20 (by decide) (fun h9 => absurd h9 (by rw [nI_leI (by omega) (by omega)]; omega)) (fun _ => ?_)
    refine lv_aload_n X.1 X.2.1 zd_W_joinBelow_23 rfl (lv_at hl 3 rfl) ?_
    refine lv_iload_n X.1 X.2.1 zd_W_joinBelow_24 rfl (lv_at hl 5 rfl) ?_
    refine lv_iload X.1 X.2.1 zd_W_joinBelow_25 (lv_at hl 6 rfl) ?_
    refine lv_iload X.1 X.2.1 zd_W_joinBelow_27 (lv_at hl 0 rfl) ?_
    refine z_callVi (As := [.int (nI t), .int (nI a), .int (nI z)]) (rest := []) (q0 := 0) (ci := 3) X hml (k_W_lengthAlong l K G A hD σ t a z (by omega) (by omega) (by omega)) (zk_W_155 X.2.2.2.1 (z_rm (by omega) (by decide))) rfl rfl rfl hP hS rfl hl.1 rfl (Nat.le_of_ble_eq_true rfl) zd_W_joinBelow_29 ⟨Nat.zero_le _, Nat.zero_le _⟩ (fun H locs hP hS => ?_)
    refine lv_istore (lv' := [(10, .int (nI (cLen σ t a z))), (9, .int (nI z)), (7, .long (cJB σ kd x t a k z)), (6, .int (nI kd)), (0, .ref (G 0)), (1, .long x), (3, .int (nI t)), (4, .int (nI a)), (5, .int (nI k))]) X.1 X.2.1 zd_W_joinBelow_32 hl (by decide) rfl (fun ls hl => ?_)
    refine lv_iconst (v := nI 0) X.1 X.2.1 zd_W_joinBelow_34 (by decide) ?_
    refine lv_istore (lv' := [(11, .int (nI 0)), (10, .int (nI (cLen σ t a z))), (9, .int (nI z)), (7, .long (cJB σ kd x t a k z)), (6, .int (nI kd)), (0, .ref (G 0)), (1, .long x), (3, .int (nI t)), (4, .int (nI a)), (5, .int (nI k))]) X.1 X.2.1 zd_W_joinBelow_35 hl (by decide) rfl (fun ls hl => ?_)
    refine q_W_joinBelow_i l K G A hD X hr hml hlocks σ kd x _ t a k z ht ha hk (by omega) hB hkd (fun H locs ls hP hS hl => ?_) (cLen σ t a z) 0 (Nat.zero_add _) H locs ls hP hS (lv_sub hl [0, 3, 1, 2, 4, 5, 6, 7, 8, 9] rfl)
    refine lv_iinc (v := nI (z + 1)) (lv' := [(9, .int (nI (z + 1))), (7, .long (cJBi σ kd (cJB σ kd x t a k z) t a k z (cLen σ t a z))), (6, .int (nI kd)), (0, .ref (G 0)), (1, .long x), (3, .int (nI t)), (4, .int (nI a)), (5, .int (nI k))]) X.1 X.2.1 zd_W_joinBelow_80 hl (k := 1) rfl (nI_1 _) (by decide) rfl (fun ls hl => ?_)
    refine lv_goto (tgt := 17) X.1 X.2.1 zd_W_joinBelow_83 (by decide) ?_
    exact ih (z + 1) (by omega) H locs ls hP hS (lv_sub hl [0, 1, 2, 3, 4, 5, 6, 7] rfl)

set_option maxHeartbeats 4000000 in
set_option maxRecDepth 100000 in
/-- joinBelow(x, t, a, k) -/
theorem k_W_joinBelow (l : Launch) (K : zK) (G : Nat → Nat) (A : Nat → Prop) (hD : ∀ σ, va_D A (cW K G σ)) (σ : cS) (x : Int64) (t a k : Nat) (ht : t < 20) (ha : a < 8) (hk : k < 16) (hB : cB σ) : zMet l K A zy_W_joinBelow zws_W_joinBelow 3 [.ref (G 0), .long x, .int (nI t), .int (nI a), .int (nI k)] (cW K G σ) (cW K G σ) (some (.long (cJB σ (cA_kinds σ a) x t a k 3))) := by
  refine z_entry (by decide) (Nat.le_of_ble_eq_true rfl) ?_
  intro p e s m below meth c ls X hr hml hlocks hP hl
  have hS : va_S A s.heap s.heap [] := va_S.rf
  have hl : lv_has ls 13 [(0, .ref (G 0)), (1, .long x), (3, .int (nI t)), (4, .int (nI a)), (5, .int (nI k))] := hl
  refine lv_aload_n X.1 X.2.1 zd_W_joinBelow_0 rfl (lv_at hl 0 rfl) ?_
  refine g_cW_aspects X hP zd_W_joinBelow_1 ?_
  refine lv_iload X.1 X.2.1 zd_W_joinBelow_4 (lv_at hl 3 rfl) ?_
  refine z_callVi (As := [.int (nI a)]) (rest := []) (q0 := 2) (ci := 1) X hml (k_A_kindOf l K G A hD σ a (by omega)) (zk_W_186 X.2.2.2.1 (z_rm (by omega) (by decide))) rfl rfl rfl hP hS rfl hl.1 rfl (Nat.le_of_ble_eq_true rfl) zd_W_joinBelow_6 ⟨Nat.zero_le _, Nat.zero_le _⟩ (fun H locs hP hS => ?_)
  refine lv_istore (lv' := [(6, .int (nI (cA_kinds σ a))), (0, .ref (G 0)), (1, .long x), (3, .int (nI t)), (4, .int (nI a)), (5, .int (nI k))]) X.1 X.2.1 zd_W_joinBelow_9 hl (by decide) rfl (fun ls hl => ?_)
  refine lv_lload_n X.1 X.2.1 zd_W_joinBelow_11 rfl (lv_at hl 2 rfl) ?_
  refine lv_lstore (lv' := [(7, .long x), (6, .int (nI (cA_kinds σ a))), (0, .ref (G 0)), (1, .long x), (3, .int (nI t)), (4, .int (nI a)), (5, .int (nI k))]) X.1 X.2.1 zd_W_joinBelow_12 hl (by decide) rfl (fun ls hl => ?_)
  refine lv_iconst (v := nI 0) X.1 X.2.1 zd_W_joinBelow_14 (by decide) ?_
  refine lv_istore (lv' := [(9, .int (nI 0)), (7, .long x), (6, .int (nI (cA_kinds σ a))), (0, .ref (G 0)), (1, .long x), (3, .int (nI t)), (4, .int (nI a)), (5, .int (nI k))]) X.1 X.2.1 zd_W_joinBelow_15 hl (by decide) rfl (fun ls hl => ?_)
  exact q_W_joinBelow l K G A hD X hr hml hlocks σ _ x t a k ht ha hk hB (hB.2.2.2.2.2.2.2.1 a) (3) 0 (Nat.zero_add _) H locs ls hP hS (lv_sub hl [0, 1, 2, 3, 4, 5, 6, 7] rfl)

set_option maxHeartbeats 4000000 in
set_option maxRecDepth 100000 in
/-- joined, the counting kind -/
theorem k_W_joined_3 (l : Launch) (K : zK) (G : Nat → Nat) (A : Nat → Prop) (hD : ∀ σ, va_D A (cW K G σ)) (σ : cS) (t a k : Nat) (ht : t < 20) (ha : a < 8) (hk : k < 16) (hB : cB σ) (h3 : cA_kinds σ a = 3) : zMet l K A zy_W_joined zws_W_joined 4 [.ref (G 0), .int (nI t), .int (nI a), .int (nI k)] (cW K G σ) (cW K G σ) (some (.long (cJoined σ t a k))) := by
  have hB3 := hB.2.2.2.2.2.2.2.1 a
  refine z_entry (by decide) (Nat.le_of_ble_eq_true rfl) ?_
  intro p e s m below meth c ls X hr hml hlocks hP hl
  have hS : va_S A s.heap s.heap [] := va_S.rf
  have hl : lv_has ls 9 [(0, .ref (G 0)), (1, .int (nI t)), (2, .int (nI a)), (3, .int (nI k))] := hl
  refine lv_aload_n X.1 X.2.1 zd_W_joined_0 rfl (lv_at hl 0 rfl) ?_
  refine g_cW_aspects X hP zd_W_joined_1 ?_
  refine lv_iload_n X.1 X.2.1 zd_W_joined_4 rfl (lv_at hl 2 rfl) ?_
  refine z_callVi (As := [.int (nI a)]) (rest := []) (q0 := 2) (ci := 1) X hml (k_A_kindOf l K G A hD σ a (by omega)) (zk_W_186 X.2.2.2.1 (z_rm (by omega) (by decide))) rfl rfl rfl hP hS rfl hl.1 rfl (Nat.le_of_ble_eq_true rfl) zd_W_joined_5 ⟨Nat.zero_le _, Nat.zero_le _⟩ (fun H locs hP hS => ?_)
  refine lv_istore (lv' := [(4, .int (nI (cA_kinds σ a))), (0, .ref (G 0)), (1, .int (nI t)), (2, .int (nI a)), (3, .int (nI k))]) X.1 X.2.1 zd_W_joined_8 hl (by decide) rfl (fun ls hl => ?_)
  refine lv_iload X.1 X.2.1 zd_W_joined_10 (lv_at hl 0 rfl) ?_
  refine lv_iconst (v := nI 3) X.1 X.2.1 zd_W_joined_12 (by decide) ?_
  refine lv_icmp_ne (tgt := 20) X.1 X.2.1 zd_W_joined_13 (by decide) (fun h9 => absurd (by rw [nI_eq (by omega) (by omega)]; exact h3) h9) (fun _ => ?_)
  refine lv_lconst (v := 1) X.1 X.2.1 zd_W_joined_16 (by decide) ?_
  refine lv_goto (tgt := 31) X.1 X.2.1 zd_W_joined_17 (by decide) ?_
  refine lv_lstore (lv' := [(5, .long 1), (4, .int (nI (cA_kinds σ a))), (0, .ref (G 0)), (1, .int (nI t)), (2, .int (nI a)), (3, .int (nI k))]) X.1 X.2.1 zd_W_joined_31 hl (by decide) rfl (fun ls hl => ?_)
  refine lv_aload_n X.1 X.2.1 zd_W_joined_33 rfl (lv_at hl 2 rfl) ?_
  refine lv_lload X.1 X.2.1 zd_W_joined_34 (lv_at hl 0 rfl) ?_
  refine lv_iload_n X.1 X.2.1 zd_W_joined_36 rfl (lv_at hl 3 rfl) ?_
  refine lv_iload_n X.1 X.2.1 zd_W_joined_37 rfl (lv_at hl 4 rfl) ?_
  refine lv_iload_n X.1 X.2.1 zd_W_joined_38 rfl (lv_at hl 5 rfl) ?_
  refine z_callVl (As := [.long 1, .int (nI t), .int (nI a), .int (nI k)]) (rest := []) (q0 := 0) (ci := 3) X hml (k_W_joinBelow l K G A hD σ 1 t a k (by omega) (by omega) (by omega) hB) (zk_W_193 X.2.2.2.1 (z_rm (by omega) (by decide))) rfl rfl rfl hP hS rfl hl.1 rfl (Nat.le_of_ble_eq_true rfl) zd_W_joined_39 ⟨Nat.zero_le _, Nat.zero_le _⟩ (fun H locs hP hS => ?_)
  refine lv_lstore (lv' := [(7, .long (cJB σ (cA_kinds σ a) 1 t a k 3)), (5, .long 1), (4, .int (nI (cA_kinds σ a))), (0, .ref (G 0)), (1, .int (nI t)), (2, .int (nI a)), (3, .int (nI k))]) X.1 X.2.1 zd_W_joined_42 hl (by decide) rfl (fun ls hl => ?_)
  refine lv_iload X.1 X.2.1 zd_W_joined_44 (lv_at hl 2 rfl) ?_
  refine lv_iconst (v := nI 3) X.1 X.2.1 zd_W_joined_46 (by decide) ?_
  refine lv_icmp_ne (tgt := 55) X.1 X.2.1 zd_W_joined_47 (by decide) (fun h9 => absurd (by rw [nI_eq (by omega) (by omega)]; exact h3) h9) (fun _ => ?_)
  refine lv_lload X.1 X.2.1 zd_W_joined_50 (lv_at hl 0 rfl) ?_
  refine lv_goto (tgt := 64) X.1 X.2.1 zd_W_joined_52 (by decide) ?_
  exact z_lret X.1 X.2.1 hr hlocks (by rw [cJoined, if_pos h3]) rfl hP hS zd_W_joined_64

set_option maxHeartbeats 4000000 in
set_option maxRecDepth 100000 in
/-- joined, another kind -/
theorem k_W_joined_n (l : Launch) (K : zK) (G : Nat → Nat) (A : Nat → Prop) (hD : ∀ σ, va_D A (cW K G σ)) (σ : cS) (t a k : Nat) (ht : t < 20) (ha : a < 8) (hk : k < 16) (hB : cB σ) (h3 : ¬ cA_kinds σ a = 3) : zMet l K A zy_W_joined zws_W_joined 4 [.ref (G 0), .int (nI t), .int (nI a), .int (nI k)] (cW K G σ) (cW K G σ) (some (.long (cJoined σ t a k))) := by
  have hB3 := hB.2.2.2.2.2.2.2.1 a
  refine z_entry (by decide) (Nat.le_of_ble_eq_true rfl) ?_
  intro p e s m below meth c ls X hr hml hlocks hP hl
  have hS : va_S A s.heap s.heap [] := va_S.rf
  have hl : lv_has ls 9 [(0, .ref (G 0)), (1, .int (nI t)), (2, .int (nI a)), (3, .int (nI k))] := hl
  refine lv_aload_n X.1 X.2.1 zd_W_joined_0 rfl (lv_at hl 0 rfl) ?_
  refine g_cW_aspects X hP zd_W_joined_1 ?_
  refine lv_iload_n X.1 X.2.1 zd_W_joined_4 rfl (lv_at hl 2 rfl) ?_
  refine z_callVi (As := [.int (nI a)]) (rest := []) (q0 := 2) (ci := 1) X hml (k_A_kindOf l K G A hD σ a (by omega)) (zk_W_186 X.2.2.2.1 (z_rm (by omega) (by decide))) rfl rfl rfl hP hS rfl hl.1 rfl (Nat.le_of_ble_eq_true rfl) zd_W_joined_5 ⟨Nat.zero_le _, Nat.zero_le _⟩ (fun H locs hP hS => ?_)
  refine lv_istore (lv' := [(4, .int (nI (cA_kinds σ a))), (0, .ref (G 0)), (1, .int (nI t)), (2, .int (nI a)), (3, .int (nI k))]) X.1 X.2.1 zd_W_joined_8 hl (by decide) rfl (fun ls hl => ?_)
  refine lv_iload X.1 X.2.1 zd_W_joined_10 (lv_at hl 0 rfl) ?_
  refine lv_iconst (v := nI 3) X.1 X.2.1 zd_W_joined_12 (by decide) ?_
  refine lv_icmp_ne (tgt := 20) X.1 X.2.1 zd_W_joined_13 (by decide) (fun _ => ?_) (fun h9 => absurd h9 (by rw [nI_eq (by omega) (by omega)]; exact h3))
  refine lv_aload_n X.1 X.2.1 zd_W_joined_20 rfl (lv_at hl 1 rfl) ?_
  refine g_cW_targets X hP zd_W_joined_21 ?_
  refine lv_iload_n X.1 X.2.1 zd_W_joined_24 rfl (lv_at hl 2 rfl) ?_
  refine z_callVl (As := [.int (nI t)]) (rest := []) (q0 := 1) (ci := 0) X hml (k_T_valueOf l K G A hD σ t (by omega)) (zk_W_189 X.2.2.2.1 (z_rm (by omega) (by decide))) rfl rfl rfl hP hS rfl hl.1 rfl (Nat.le_of_ble_eq_true rfl) zd_W_joined_25 ⟨Nat.zero_le _, Nat.zero_le _⟩ (fun H locs hP hS => ?_)
  refine lv_iload_n X.1 X.2.1 zd_W_joined_28 rfl (lv_at hl 4 rfl) ?_
  refine lv_i2l (v := (nI k).toInt64) X.1 X.2.1 zd_W_joined_29 rfl ?_
  refine lv_ladd X.1 X.2.1 zd_W_joined_30 ?_
  refine lv_lstore (lv' := [(5, .long ((cT_values σ t) + ((nI k).toInt64))), (4, .int (nI (cA_kinds σ a))), (0, .ref (G 0)), (1, .int (nI t)), (2, .int (nI a)), (3, .int (nI k))]) X.1 X.2.1 zd_W_joined_31 hl (by decide) rfl (fun ls hl => ?_)
  refine lv_aload_n X.1 X.2.1 zd_W_joined_33 rfl (lv_at hl 2 rfl) ?_
  refine lv_lload X.1 X.2.1 zd_W_joined_34 (lv_at hl 0 rfl) ?_
  refine lv_iload_n X.1 X.2.1 zd_W_joined_36 rfl (lv_at hl 3 rfl) ?_
  refine lv_iload_n X.1 X.2.1 zd_W_joined_37 rfl (lv_at hl 4 rfl) ?_
  refine lv_iload_n X.1 X.2.1 zd_W_joined_38 rfl (lv_at hl 5 rfl) ?_
  refine z_callVl (As := [.long ((cT_values σ t) + ((nI k).toInt64)), .int (nI t), .int (nI a), .int (nI k)]) (rest := []) (q0 := 0) (ci := 3) X hml (k_W_joinBelow l K G A hD σ ((cT_values σ t) + ((nI k).toInt64)) t a k (by omega) (by omega) (by omega) hB) (zk_W_193 X.2.2.2.1 (z_rm (by omega) (by decide))) rfl rfl rfl hP hS rfl hl.1 rfl (Nat.le_of_ble_eq_true rfl) zd_W_joined_39 ⟨Nat.zero_le _, Nat.zero_le _⟩ (fun H locs hP hS => ?_)
  refine lv_lstore (lv' := [(7, .long (cJB σ (cA_kinds σ a) ((cT_values σ t) + ((nI k).toInt64)) t a k 3)), (5, .long ((cT_values σ t) + ((nI k).toInt64))), (4, .int (nI (cA_kinds σ a))), (0, .ref (G 0)), (1, .int (nI t)), (2, .int (nI a)), (3, .int (nI k))]) X.1 X.2.1 zd_W_joined_42 hl (by decide) rfl (fun ls hl => ?_)
  refine lv_iload X.1 X.2.1 zd_W_joined_44 (lv_at hl 2 rfl) ?_
  refine lv_iconst (v := nI 3) X.1 X.2.1 zd_W_joined_46 (by decide) ?_
  refine lv_icmp_ne (tgt := 55) X.1 X.2.1 zd_W_joined_47 (by decide) (fun _ => ?_) (fun h9 => absurd h9 (by rw [nI_eq (by omega) (by omega)]; exact h3))
  refine lv_aload_n X.1 X.2.1 zd_W_joined_55 rfl (lv_at hl 3 rfl) ?_
  refine lv_lload X.1 X.2.1 zd_W_joined_56 (lv_at hl 0 rfl) ?_
  refine lv_iload_n X.1 X.2.1 zd_W_joined_58 rfl (lv_at hl 4 rfl) ?_
  refine lv_iload_n X.1 X.2.1 zd_W_joined_59 rfl (lv_at hl 5 rfl) ?_
  refine lv_iload_n X.1 X.2.1 zd_W_joined_60 rfl (lv_at hl 6 rfl) ?_
  refine z_callVl (As := [.long (cJB σ (cA_kinds σ a) ((cT_values σ t) + ((nI k).toInt64)) t a k 3), .int (nI t), .int (nI a), .int (nI k)]) (rest := []) (q0 := 0) (ci := 3) X hml (k_W_joinNeeds l K G A hD σ (cJB σ (cA_kinds σ a) ((cT_values σ t) + ((nI k).toInt64)) t a k 3) t a k (by omega) (by omega) (by omega) hB) (zk_W_197 X.2.2.2.1 (z_rm (by omega) (by decide))) rfl rfl rfl hP hS rfl hl.1 rfl (Nat.le_of_ble_eq_true rfl) zd_W_joined_61 ⟨Nat.zero_le _, Nat.zero_le _⟩ (fun H locs hP hS => ?_)
  exact z_lret X.1 X.2.1 hr hlocks (by rw [cJoined, if_neg h3]) rfl hP hS zd_W_joined_64

theorem k_W_joined (l : Launch) (K : zK) (G : Nat → Nat) (A : Nat → Prop) (hD : ∀ σ, va_D A (cW K G σ)) (σ : cS) (t a k : Nat) (ht : t < 20) (ha : a < 8) (hk : k < 16) (hB : cB σ) : zMet l K A zy_W_joined zws_W_joined 4 [.ref (G 0), .int (nI t), .int (nI a), .int (nI k)] (cW K G σ) (cW K G σ) (some (.long (cJoined σ t a k))) := by
  by_cases h3 : cA_kinds σ a = 3
  · exact k_W_joined_3 l K G A hD σ t a k ht ha hk hB h3
  · exact k_W_joined_n l K G A hD σ t a k ht ha hk hB h3

