/-! contracts of the reference, last part (by program: wip/gen/r4.py) -/
def mDone (σ : mS) (t a : Nat) : mS := p_mR_heap (p_mR_times (p_mR_known (p_mR_results σ (vp_updL (mR_results σ) (mPl σ t a) (mRes σ t a))) (upN (mR_known σ) (mPl σ t a) 2)) (upd (mR_times σ) (8 * t + a) (mR_times σ (8 * t + a) + nI 1))) (mR_heap σ - 1)
noncomputable def mGo (σ : mS) : mS :=
  if (mWN σ (mR_heapTarget σ (mR_heap σ - 1)) (mR_heapAspect σ (mR_heap σ - 1)) (mR_needMany σ (mR_heapAspect σ (mR_heap σ - 1))) 0).1 = 0 then
    if mAll σ (mR_heapTarget σ (mR_heap σ - 1)) (mR_heapAspect σ (mR_heap σ - 1)) = 0 then p_mR_heap (p_mR_known σ (upN (mR_known σ) (mPl σ (mR_heapTarget σ (mR_heap σ - 1)) (mR_heapAspect σ (mR_heap σ - 1))) 1)) (mR_heap σ - 1)
    else if (mWT σ (mR_heapTarget σ (mR_heap σ - 1)) (mR_heapAspect σ (mR_heap σ - 1)) 3 0).1 = 0 then
      if (mMakes σ (mR_heapTarget σ (mR_heap σ - 1)) (mR_heapAspect σ (mR_heap σ - 1))).1 = 0 then p_mR_heap (p_mR_clashes (mMakes σ (mR_heapTarget σ (mR_heap σ - 1)) (mR_heapAspect σ (mR_heap σ - 1))).2 1) 0
      else mDone (mMakes σ (mR_heapTarget σ (mR_heap σ - 1)) (mR_heapAspect σ (mR_heap σ - 1))).2 (mR_heapTarget σ (mR_heap σ - 1)) (mR_heapAspect σ (mR_heap σ - 1))
    else (mWT σ (mR_heapTarget σ (mR_heap σ - 1)) (mR_heapAspect σ (mR_heap σ - 1)) 3 0).2
  else (mWN σ (mR_heapTarget σ (mR_heap σ - 1)) (mR_heapAspect σ (mR_heap σ - 1)) (mR_needMany σ (mR_heapAspect σ (mR_heap σ - 1))) 0).2
noncomputable def mIter (σ : mS) : Nat → mS
  | 0 => σ
  | n + 1 => mIter (mGo σ) n
/-- what a step of goOn asks for -/
def mGoOk (σ : mS) : Prop := mB σ ∧ mMb σ ∧ (∀ q, mR_known σ q ≤ 2) ∧ mR_setting σ < 16 ∧ 1 ≤ mR_heap σ ∧ mR_heap σ < 170 ∧ mR_heapTarget σ (mR_heap σ - 1) < 20 ∧ mR_heapAspect σ (mR_heap σ - 1) < 8
theorem mMakes_same (σ : mS) (t a : Nat) : mSame (mMakes σ t a).2 σ ∧ mR_setting (mMakes σ t a).2 = mR_setting σ ∧ mR_known (mMakes σ t a).2 = mR_known σ ∧ mR_heap (mMakes σ t a).2 = mR_heap σ := by
  unfold mMakes
  split
  · exact ⟨mSame.rf σ, rfl, rfl, rfl⟩
  · split
    · exact ⟨mSame_madeBy _ _, rfl, rfl, rfl⟩
    · exact ⟨⟨rfl, rfl, rfl, rfl, rfl, rfl, rfl, rfl, rfl, rfl, rfl, rfl, rfl, rfl⟩, rfl, rfl, rfl⟩

set_option maxHeartbeats 4000000 in
set_option maxRecDepth 100000 in
/-- makes: no name -/
theorem r_makes_n (l : Launch) (K : zK) (G : Nat → Nat) (A : Nat → Prop) (hD : ∀ σ, va_D A (mW K G σ)) (σ : mS) (t a : Nat) (ht : t < 20) (ha : a < 8) (hB : mB σ) (hk : mR_setting σ < 16) (hq : mR_nameOf σ a = -1) : zMet l K A zy_R_makes zws_R_makes 0 [.ref (G 0), .int (nI t), .int (nI a)] (mW K G σ) (mW K G ((mMakes σ t a).2)) (some (.int (nI ((mMakes σ t a).1)))) := by
  refine z_entry (by decide) (Nat.le_of_ble_eq_true rfl) ?_
  intro p e s m below meth c ls X hr hml hlocks hP hl
  have hS : va_S A s.heap s.heap [] := va_S.rf
  have hl : lv_has ls 5 [(0, .ref (G 0)), (1, .int (nI t)), (2, .int (nI a))] := hl
  refine lv_aload_n X.1 X.2.1 zd_R_makes_0 rfl (lv_at hl 0 rfl) ?_
  refine g_mR_nameOf X hP zd_R_makes_1 ?_
  refine lv_iload_n X.1 X.2.1 zd_R_makes_4 rfl (lv_at hl 2 rfl) ?_
  refine l_mR_nameOf X hP (by omega) zd_R_makes_5 ?_
  refine lv_iconst (v := -1) X.1 X.2.1 zd_R_makes_6 (by decide) ?_
  refine lv_icmp_ne (tgt := 12) X.1 X.2.1 zd_R_makes_7 (by decide) (fun h9 => absurd hq h9) (fun _ => ?_)
  refine lv_iconst (v := nI 1) X.1 X.2.1 zd_R_makes_10 (by decide) ?_
  exact z_zret X.1 X.2.1 hr hlocks (Or.inr rfl) (by rw [mMakes, if_pos hq]) (by rw [mMakes, if_pos hq]) hP hS zd_R_makes_11

set_option maxHeartbeats 4000000 in
set_option maxRecDepth 100000 in
/-- makes: not made yet -/
theorem r_makes_m (l : Launch) (K : zK) (G : Nat → Nat) (A : Nat → Prop) (hD : ∀ σ, va_D A (mW K G σ)) (σ : mS) (t a : Nat) (ht : t < 20) (ha : a < 8) (hB : mB σ) (hk : mR_setting σ < 16) (q : Nat) (hq10 : q < 10) (hq : mR_nameOf σ a = nI q) (hm : mR_madeBy σ (10 * t + q) = -1) : zMet l K A zy_R_makes zws_R_makes 0 [.ref (G 0), .int (nI t), .int (nI a)] (mW K G σ) (mW K G ((mMakes σ t a).2)) (some (.int (nI ((mMakes σ t a).1)))) := by
  have hne : ¬ nI q = -1 := by intro h; have := congrArg Int32.toInt h; rw [nI_toInt (by omega)] at this; simp at this
  refine z_entry (by decide) (Nat.le_of_ble_eq_true rfl) ?_
  intro p e s m below meth c ls X hr hml hlocks hP hl
  have hS : va_S A s.heap s.heap [] := va_S.rf
  have hl : lv_has ls 5 [(0, .ref (G 0)), (1, .int (nI t)), (2, .int (nI a))] := hl
  refine lv_aload_n X.1 X.2.1 zd_R_makes_0 rfl (lv_at hl 0 rfl) ?_
  refine g_mR_nameOf X hP zd_R_makes_1 ?_
  refine lv_iload_n X.1 X.2.1 zd_R_makes_4 rfl (lv_at hl 2 rfl) ?_
  refine l_mR_nameOf X hP (by omega) zd_R_makes_5 ?_
  refine z_top hq ?_
  refine lv_iconst (v := -1) X.1 X.2.1 zd_R_makes_6 (by decide) ?_
  refine lv_icmp_ne (tgt := 12) X.1 X.2.1 zd_R_makes_7 (by decide) (fun _ => ?_) (fun h9 => absurd h9 hne)
  refine lv_bipush (v := nI 10) X.1 X.2.1 zd_R_makes_12 (by decide) ?_
  refine lv_iload_n X.1 X.2.1 zd_R_makes_14 rfl (lv_at hl 1 rfl) ?_
  refine lv_imul X.1 X.2.1 zd_R_makes_15 ?_
  refine z_top (pk_mul _ _) ?_
  refine lv_aload_n X.1 X.2.1 zd_R_makes_16 rfl (lv_at hl 0 rfl) ?_
  refine g_mR_nameOf X hP zd_R_makes_17 ?_
  refine lv_iload_n X.1 X.2.1 zd_R_makes_20 rfl (lv_at hl 2 rfl) ?_
  refine l_mR_nameOf X hP (by omega) zd_R_makes_21 ?_
  refine z_top hq ?_
  refine lv_iadd X.1 X.2.1 zd_R_makes_22 ?_
  refine z_top (nI_add _ _) ?_
  refine lv_istore_n (lv' := [(3, .int (nI ((10 * t) + q))), (0, .ref (G 0)), (1, .int (nI t)), (2, .int (nI a))]) X.1 X.2.1 zd_R_makes_23 rfl hl (by decide) rfl (fun ls hl => ?_)
  refine lv_bipush (v := nI 16) X.1 X.2.1 zd_R_makes_24 (by decide) ?_
  refine lv_iload_n X.1 X.2.1 zd_R_makes_26 rfl (lv_at hl 3 rfl) ?_
  refine lv_imul X.1 X.2.1 zd_R_makes_27 ?_
  refine z_top (pk_mul _ _) ?_
  refine lv_aload_n X.1 X.2.1 zd_R_makes_28 rfl (lv_at hl 1 rfl) ?_
  refine g_mR_setting X hP zd_R_makes_29 ?_
  refine lv_iadd X.1 X.2.1 zd_R_makes_32 ?_
  refine z_top (nI_add _ _) ?_
  refine lv_istore (lv' := [(4, .int (nI ((16 * a) + (mR_setting σ)))), (3, .int (nI ((10 * t) + q))), (0, .ref (G 0)), (1, .int (nI t)), (2, .int (nI a))]) X.1 X.2.1 zd_R_makes_33 hl (by decide) rfl (fun ls hl => ?_)
  refine lv_aload_n X.1 X.2.1 zd_R_makes_35 rfl (lv_at hl 2 rfl) ?_
  refine g_mR_madeBy X hP zd_R_makes_36 ?_
  refine lv_iload_n X.1 X.2.1 zd_R_makes_39 rfl (lv_at hl 1 rfl) ?_
  refine l_mR_madeBy X hP (by omega) zd_R_makes_40 ?_
  refine lv_iconst (v := -1) X.1 X.2.1 zd_R_makes_41 (by decide) ?_
  refine lv_icmp_eq (tgt := 112) X.1 X.2.1 zd_R_makes_42 (by decide) (fun _ => ?_) (fun h9 => absurd hm h9)
  refine lv_aload_n X.1 X.2.1 zd_R_makes_112 rfl (lv_at hl 2 rfl) ?_
  refine g_mR_madeBy X hP zd_R_makes_113 ?_
  refine lv_iload_n X.1 X.2.1 zd_R_makes_116 rfl (lv_at hl 1 rfl) ?_
  refine lv_iload X.1 X.2.1 zd_R_makes_117 (lv_at hl 0 rfl) ?_
  refine s_mR_madeBy X hD hP hS (by omega) zd_R_makes_119 (fun H locs hP hS => ?_)
  have hP : va_P K.1 zcl (mW K G (p_mR_madeBy σ (upd (mR_madeBy σ) ((10 * t) + q) (nI ((16 * a) + (mR_setting σ)))))) H := hP
  refine lv_iconst (v := nI 1) X.1 X.2.1 zd_R_makes_120 (by decide) ?_
  exact z_zret X.1 X.2.1 hr hlocks (Or.inr rfl) (by simp [mMakes, hq, hne, nI_clamp (show q < 2 ^ 31 by omega), hm]) (by simp [mMakes, hq, hne, nI_clamp (show q < 2 ^ 31 by omega), hm]; try rfl) hP hS zd_R_makes_121

set_option maxHeartbeats 4000000 in
set_option maxRecDepth 100000 in
/-- makes: made by it -/
theorem r_makes_s (l : Launch) (K : zK) (G : Nat → Nat) (A : Nat → Prop) (hD : ∀ σ, va_D A (mW K G σ)) (σ : mS) (t a : Nat) (ht : t < 20) (ha : a < 8) (hB : mB σ) (hk : mR_setting σ < 16) (q : Nat) (hq10 : q < 10) (hq : mR_nameOf σ a = nI q) (hm0 : ¬ mR_madeBy σ (10 * t + q) = -1) (hm : mR_madeBy σ (10 * t + q) = nI (16 * a + mR_setting σ)) : zMet l K A zy_R_makes zws_R_makes 0 [.ref (G 0), .int (nI t), .int (nI a)] (mW K G σ) (mW K G ((mMakes σ t a).2)) (some (.int (nI ((mMakes σ t a).1)))) := by
  have hne : ¬ nI q = -1 := by intro h; have := congrArg Int32.toInt h; rw [nI_toInt (by omega)] at this; simp at this
  refine z_entry (by decide) (Nat.le_of_ble_eq_true rfl) ?_
  intro p e s m below meth c ls X hr hml hlocks hP hl
  have hS : va_S A s.heap s.heap [] := va_S.rf
  have hl : lv_has ls 5 [(0, .ref (G 0)), (1, .int (nI t)), (2, .int (nI a))] := hl
  refine lv_aload_n X.1 X.2.1 zd_R_makes_0 rfl (lv_at hl 0 rfl) ?_
  refine g_mR_nameOf X hP zd_R_makes_1 ?_
  refine lv_iload_n X.1 X.2.1 zd_R_makes_4 rfl (lv_at hl 2 rfl) ?_
  refine l_mR_nameOf X hP (by omega) zd_R_makes_5 ?_
  refine z_top hq ?_
  refine lv_iconst (v := -1) X.1 X.2.1 zd_R_makes_6 (by decide) ?_
  refine lv_icmp_ne (tgt := 12) X.1 X.2.1 zd_R_makes_7 (by decide) (fun _ => ?_) (fun h9 => absurd h9 hne)
  refine lv_bipush (v := nI 10) X.1 X.2.1 zd_R_makes_12 (by decide) ?_
  refine lv_iload_n X.1 X.2.1 zd_R_makes_14 rfl (lv_at hl 1 rfl) ?_
  refine lv_imul X.1 X.2.1 zd_R_makes_15 ?_
  refine z_top (pk_mul _ _) ?_
  refine lv_aload_n X.1 X.2.1 zd_R_makes_16 rfl (lv_at hl 0 rfl) ?_
  refine g_mR_nameOf X hP zd_R_makes_17 ?_
  refine lv_iload_n X.1 X.2.1 zd_R_makes_20 rfl (lv_at hl 2 rfl) ?_
  refine l_mR_nameOf X hP (by omega) zd_R_makes_21 ?_
  refine z_top hq ?_
  refine lv_iadd X.1 X.2.1 zd_R_makes_22 ?_
  refine z_top (nI_add _ _) ?_
  refine lv_istore_n (lv' := [(3, .int (nI ((10 * t) + q))), (0, .ref (G 0)), (1, .int (nI t)), (2, .int (nI a))]) X.1 X.2.1 zd_R_makes_23 rfl hl (by decide) rfl (fun ls hl => ?_)
  refine lv_bipush (v := nI 16) X.1 X.2.1 zd_R_makes_24 (by decide) ?_
  refine lv_iload_n X.1 X.2.1 zd_R_makes_26 rfl (lv_at hl 3 rfl) ?_
  refine lv_imul X.1 X.2.1 zd_R_makes_27 ?_
  refine z_top (pk_mul _ _) ?_
  refine lv_aload_n X.1 X.2.1 zd_R_makes_28 rfl (lv_at hl 1 rfl) ?_
  refine g_mR_setting X hP zd_R_makes_29 ?_
  refine lv_iadd X.1 X.2.1 zd_R_makes_32 ?_
  refine z_top (nI_add _ _) ?_
  refine lv_istore (lv' := [(4, .int (nI ((16 * a) + (mR_setting σ)))), (3, .int (nI ((10 * t) + q))), (0, .ref (G 0)), (1, .int (nI t)), (2, .int (nI a))]) X.1 X.2.1 zd_R_makes_33 hl (by decide) rfl (fun ls hl => ?_)
  refine lv_aload_n X.1 X.2.1 zd_R_makes_35 rfl (lv_at hl 2 rfl) ?_
  refine g_mR_madeBy X hP zd_R_makes_36 ?_
  refine lv_iload_n X.1 X.2.1 zd_R_makes_39 rfl (lv_at hl 1 rfl) ?_
  refine l_mR_madeBy X hP (by omega) zd_R_makes_40 ?_
  refine lv_iconst (v := -1) X.1 X.2.1 zd_R_makes_41 (by decide) ?_
  refine lv_icmp_eq (tgt := 112) X.1 X.2.1 zd_R_makes_42 (by decide) (fun h9 => absurd h9 hm0) (fun _ => ?_)
  refine lv_aload_n X.1 X.2.1 zd_R_makes_45 rfl (lv_at hl 2 rfl) ?_
  refine g_mR_madeBy X hP zd_R_makes_46 ?_
  refine lv_iload_n X.1 X.2.1 zd_R_makes_49 rfl (lv_at hl 1 rfl) ?_
  refine l_mR_madeBy X hP (by omega) zd_R_makes_50 ?_
  refine lv_iload X.1 X.2.1 zd_R_makes_51 (lv_at hl 0 rfl) ?_
  refine lv_icmp_eq (tgt := 112) X.1 X.2.1 zd_R_makes_53 (by decide) (fun _ => ?_) (fun h9 => absurd hm h9)
  refine lv_aload_n X.1 X.2.1 zd_R_makes_112 rfl (lv_at hl 2 rfl) ?_
  refine g_mR_madeBy X hP zd_R_makes_113 ?_
  refine lv_iload_n X.1 X.2.1 zd_R_makes_116 rfl (lv_at hl 1 rfl) ?_
  refine lv_iload X.1 X.2.1 zd_R_makes_117 (lv_at hl 0 rfl) ?_
  refine s_mR_madeBy X hD hP hS (by omega) zd_R_makes_119 (fun H locs hP hS => ?_)
  have hP : va_P K.1 zcl (mW K G (p_mR_madeBy σ (upd (mR_madeBy σ) ((10 * t) + q) (nI ((16 * a) + (mR_setting σ)))))) H := hP
  refine lv_iconst (v := nI 1) X.1 X.2.1 zd_R_makes_120 (by decide) ?_
  exact z_zret X.1 X.2.1 hr hlocks (Or.inr rfl) (by simp [mMakes, hq, hne, nI_clamp (show q < 2 ^ 31 by omega), hm0, hm]) (by simp [mMakes, hq, hne, nI_clamp (show q < 2 ^ 31 by omega), hm0, hm]; try rfl) hP hS zd_R_makes_121

set_option maxHeartbeats 4000000 in
set_option maxRecDepth 100000 in
/-- makes: made by another -/
theorem r_makes_c (l : Launch) (K : zK) (G : Nat → Nat) (A : Nat → Prop) (hD : ∀ σ, va_D A (mW K G σ)) (σ : mS) (t a : Nat) (ht : t < 20) (ha : a < 8) (hB : mB σ) (hk : mR_setting σ < 16) (q : Nat) (hq10 : q < 10) (hq : mR_nameOf σ a = nI q) (hm0 : ¬ mR_madeBy σ (10 * t + q) = -1) (hm : ¬ mR_madeBy σ (10 * t + q) = nI (16 * a + mR_setting σ)) (n : Nat) (hn128 : n < 128) (hn : mR_madeBy σ (10 * t + q) = nI n) : zMet l K A zy_R_makes zws_R_makes 0 [.ref (G 0), .int (nI t), .int (nI a)] (mW K G σ) (mW K G ((mMakes σ t a).2)) (some (.int (nI ((mMakes σ t a).1)))) := by
  have hne : ¬ nI q = -1 := by intro h; have := congrArg Int32.toInt h; rw [nI_toInt (by omega)] at this; simp at this
  refine z_entry (by decide) (Nat.le_of_ble_eq_true rfl) ?_
  intro p e s m below meth c ls X hr hml hlocks hP hl
  have hS : va_S A s.heap s.heap [] := va_S.rf
  have hl : lv_has ls 5 [(0, .ref (G 0)), (1, .int (nI t)), (2, .int (nI a))] := hl
  refine lv_aload_n X.1 X.2.1 zd_R_makes_0 rfl (lv_at hl 0 rfl) ?_
  refine g_mR_nameOf X hP zd_R_makes_1 ?_
  refine lv_iload_n X.1 X.2.1 zd_R_makes_4 rfl (lv_at hl 2 rfl) ?_
  refine l_mR_nameOf X hP (by omega) zd_R_makes_5 ?_
  refine z_top hq ?_
  refine lv_iconst (v := -1) X.1 X.2.1 zd_R_makes_6 (by decide) ?_
  refine lv_icmp_ne (tgt := 12) X.1 X.2.1 zd_R_makes_7 (by decide) (fun _ => ?_) (fun h9 => absurd h9 hne)
  refine lv_bipush (v := nI 10) X.1 X.2.1 zd_R_makes_12 (by decide) ?_
  refine lv_iload_n X.1 X.2.1 zd_R_makes_14 rfl (lv_at hl 1 rfl) ?_
  refine lv_imul X.1 X.2.1 zd_R_makes_15 ?_
  refine z_top (pk_mul _ _) ?_
  refine lv_aload_n X.1 X.2.1 zd_R_makes_16 rfl (lv_at hl 0 rfl) ?_
  refine g_mR_nameOf X hP zd_R_makes_17 ?_
  refine lv_iload_n X.1 X.2.1 zd_R_makes_20 rfl (lv_at hl 2 rfl) ?_
  refine l_mR_nameOf X hP (by omega) zd_R_makes_21 ?_
  refine z_top hq ?_
  refine lv_iadd X.1 X.2.1 zd_R_makes_22 ?_
  refine z_top (nI_add _ _) ?_
  refine lv_istore_n (lv' := [(3, .int (nI ((10 * t) + q))), (0, .ref (G 0)), (1, .int (nI t)), (2, .int (nI a))]) X.1 X.2.1 zd_R_makes_23 rfl hl (by decide) rfl (fun ls hl => ?_)
  refine lv_bipush (v := nI 16) X.1 X.2.1 zd_R_makes_24 (by decide) ?_
  refine lv_iload_n X.1 X.2.1 zd_R_makes_26 rfl (lv_at hl 3 rfl) ?_
  refine lv_imul X.1 X.2.1 zd_R_makes_27 ?_
  refine z_top (pk_mul _ _) ?_
  refine lv_aload_n X.1 X.2.1 zd_R_makes_28 rfl (lv_at hl 1 rfl) ?_
  refine g_mR_setting X hP zd_R_makes_29 ?_
  refine lv_iadd X.1 X.2.1 zd_R_makes_32 ?_
  refine z_top (nI_add _ _) ?_
  refine lv_istore (lv' := [(4, .int (nI ((16 * a) + (mR_setting σ)))), (3, .int (nI ((10 * t) + q))), (0, .ref (G 0)), (1, .int (nI t)), (2, .int (nI a))]) X.1 X.2.1 zd_R_makes_33 hl (by decide) rfl (fun ls hl => ?_)
  refine lv_aload_n X.1 X.2.1 zd_R_makes_35 rfl (lv_at hl 2 rfl) ?_
  refine g_mR_madeBy X hP zd_R_makes_36 ?_
  refine lv_iload_n X.1 X.2.1 zd_R_makes_39 rfl (lv_at hl 1 rfl) ?_
  refine l_mR_madeBy X hP (by omega) zd_R_makes_40 ?_
  refine lv_iconst (v := -1) X.1 X.2.1 zd_R_makes_41 (by decide) ?_
  refine lv_icmp_eq (tgt := 112) X.1 X.2.1 zd_R_makes_42 (by decide) (fun h9 => absurd h9 hm0) (fun _ => ?_)
  refine lv_aload_n X.1 X.2.1 zd_R_makes_45 rfl (lv_at hl 2 rfl) ?_
  refine g_mR_madeBy X hP zd_R_makes_46 ?_
  refine lv_iload_n X.1 X.2.1 zd_R_makes_49 rfl (lv_at hl 1 rfl) ?_
  refine l_mR_madeBy X hP (by omega) zd_R_makes_50 ?_
  refine lv_iload X.1 X.2.1 zd_R_makes_51 (lv_at hl 0 rfl) ?_
  refine lv_icmp_eq (tgt := 112) X.1 X.2.1 zd_R_makes_53 (by decide) (fun h9 => absurd h9 hm) (fun _ => ?_)
  refine lv_aload_n X.1 X.2.1 zd_R_makes_56 rfl (lv_at hl 2 rfl) ?_
  refine g_mR_clashTold X hP zd_R_makes_57 ?_
  refine lv_iconst (v := nI 0) X.1 X.2.1 zd_R_makes_60 (by decide) ?_
  refine lv_iload_n X.1 X.2.1 zd_R_makes_61 rfl (lv_at hl 3 rfl) ?_
  refine s_mR_clashTold X hD hP hS (by omega) zd_R_makes_62 (fun H locs hP hS => ?_)
  have hP : va_P K.1 zcl (mW K G (p_mR_clashTold σ (upd (mR_clashTold σ) 0 (nI t)))) H := hP
  refine lv_aload_n X.1 X.2.1 zd_R_makes_63 rfl (lv_at hl 2 rfl) ?_
  refine g_mR_clashTold X hP zd_R_makes_64 ?_
  refine lv_iconst (v := nI 1) X.1 X.2.1 zd_R_makes_67 (by decide) ?_
  refine lv_iload_n X.1 X.2.1 zd_R_makes_68 rfl (lv_at hl 4 rfl) ?_
  refine s_mR_clashTold X hD hP hS (by omega) zd_R_makes_69 (fun H locs hP hS => ?_)
  have hP : va_P K.1 zcl (mW K G (p_mR_clashTold σ (upd (upd (mR_clashTold σ) 0 (nI t)) 1 (nI a)))) H := hP
  refine lv_aload_n X.1 X.2.1 zd_R_makes_70 rfl (lv_at hl 2 rfl) ?_
  refine g_mR_clashTold X hP zd_R_makes_71 ?_
  refine lv_iconst (v := nI 2) X.1 X.2.1 zd_R_makes_74 (by decide) ?_
  refine lv_aload_n X.1 X.2.1 zd_R_makes_75 rfl (lv_at hl 2 rfl) ?_
  refine g_mR_setting X hP zd_R_makes_76 ?_
  refine z_top (y := (nI (mR_setting σ))) rfl ?_
  refine s_mR_clashTold X hD hP hS (by omega) zd_R_makes_79 (fun H locs hP hS => ?_)
  have hP : va_P K.1 zcl (mW K G (p_mR_clashTold σ (upd (upd (upd (mR_clashTold σ) 0 (nI t)) 1 (nI a)) 2 (nI (mR_setting σ))))) H := hP
  refine lv_aload_n X.1 X.2.1 zd_R_makes_80 rfl (lv_at hl 2 rfl) ?_
  refine g_mR_clashTold X hP zd_R_makes_81 ?_
  refine lv_iconst (v := nI 3) X.1 X.2.1 zd_R_makes_84 (by decide) ?_
  refine lv_aload_n X.1 X.2.1 zd_R_makes_85 rfl (lv_at hl 2 rfl) ?_
  refine g_mR_madeBy X hP zd_R_makes_86 ?_
  refine lv_iload_n X.1 X.2.1 zd_R_makes_89 rfl (lv_at hl 1 rfl) ?_
  refine l_mR_madeBy X hP (by omega) zd_R_makes_90 ?_
  refine z_top (y := (mR_madeBy σ ((10 * t) + q))) rfl ?_
  refine z_top hn ?_
  refine lv_bipush (v := nI 16) X.1 X.2.1 zd_R_makes_91 (by decide) ?_
  refine lv_idiv X.1 X.2.1 zd_R_makes_93 (by decide) ?_
  refine z_top (pk_div (by omega) (by decide) (by decide)) ?_
  refine s_mR_clashTold X hD hP hS (by omega) zd_R_makes_94 (fun H locs hP hS => ?_)
  have hP : va_P K.1 zcl (mW K G (p_mR_clashTold σ (upd (upd (upd (upd (mR_clashTold σ) 0 (nI t)) 1 (nI a)) 2 (nI (mR_setting σ))) 3 (nI (n / 16))))) H := hP
  refine lv_aload_n X.1 X.2.1 zd_R_makes_95 rfl (lv_at hl 2 rfl) ?_
  refine g_mR_clashTold X hP zd_R_makes_96 ?_
  refine lv_iconst (v := nI 4) X.1 X.2.1 zd_R_makes_99 (by decide) ?_
  refine lv_aload_n X.1 X.2.1 zd_R_makes_100 rfl (lv_at hl 2 rfl) ?_
  refine g_mR_madeBy X hP zd_R_makes_101 ?_
  refine lv_iload_n X.1 X.2.1 zd_R_makes_104 rfl (lv_at hl 1 rfl) ?_
  refine l_mR_madeBy X hP (by omega) zd_R_makes_105 ?_
  refine z_top (y := (mR_madeBy σ ((10 * t) + q))) rfl ?_
  refine z_top hn ?_
  refine lv_bipush (v := nI 16) X.1 X.2.1 zd_R_makes_106 (by decide) ?_
  refine lv_irem X.1 X.2.1 zd_R_makes_108 (by decide) ?_
  refine z_top (pk_rem (by omega) (by decide) (by decide)) ?_
  refine s_mR_clashTold X hD hP hS (by omega) zd_R_makes_109 (fun H locs hP hS => ?_)
  have hP : va_P K.1 zcl (mW K G (p_mR_clashTold σ (upd (upd (upd (upd (upd (mR_clashTold σ) 0 (nI t)) 1 (nI a)) 2 (nI (mR_setting σ))) 3 (nI (n / 16))) 4 (nI (n % 16))))) H := hP
  refine lv_iconst (v := nI 0) X.1 X.2.1 zd_R_makes_110 (by decide) ?_
  exact z_zret X.1 X.2.1 hr hlocks (Or.inl rfl) (by simp [mMakes, hq, hne, nI_clamp (show q < 2 ^ 31 by omega), hm0, hm]) (by rw [mMakes, if_neg (by rw [hq]; exact hne), hq, nI_clamp (show q < 2 ^ 31 by omega), if_neg (by intro h; exact h.elim hm0 hm), hn, nI_clamp (show n < 2 ^ 31 by omega)]; rfl) hP hS zd_R_makes_111

theorem r_makes (l : Launch) (K : zK) (G : Nat → Nat) (A : Nat → Prop) (hD : ∀ σ, va_D A (mW K G σ)) (σ : mS) (t a : Nat) (ht : t < 20) (ha : a < 8) (hB : mB σ) (hk : mR_setting σ < 16) (hmb : mMb σ) : zMet l K A zy_R_makes zws_R_makes 0 [.ref (G 0), .int (nI t), .int (nI a)] (mW K G σ) (mW K G (mMakes σ t a).2) (some (.int (nI (mMakes σ t a).1))) := by
  rcases hB.2.2.2.2.2.2.2.2 a with hq | ⟨q, hq10, hq⟩
  · exact r_makes_n l K G A hD σ t a ht ha hB hk hq
  · by_cases hm0 : mR_madeBy σ (10 * t + q) = -1
    · exact r_makes_m l K G A hD σ t a ht ha hB hk q hq10 hq hm0
    · by_cases hm : mR_madeBy σ (10 * t + q) = nI (16 * a + mR_setting σ)
      · exact r_makes_s l K G A hD σ t a ht ha hB hk q hq10 hq hm0 hm
      · obtain ⟨n, hn128, hn⟩ := (hmb (10 * t + q)).resolve_left hm0
        exact r_makes_c l K G A hD σ t a ht ha hB hk q hq10 hq hm0 hm n hn128 hn

set_option maxHeartbeats 4000000 in
set_option maxRecDepth 100000 in
/-- goOn() -/
theorem r_goOn (l : Launch) (K : zK) (G : Nat → Nat) (A : Nat → Prop) (hD : ∀ σ, va_D A (mW K G σ)) (σ : mS) (hok : mGoOk σ) : zMet l K A zy_R_goOn zws_R_goOn 2 [.ref (G 0)] (mW K G σ) (mW K G (mGo σ)) none := by
  obtain ⟨hB, hmb, hkn2, hk, h1, h2, h5, h6⟩ := hok
  refine z_entry (by decide) (Nat.le_of_ble_eq_true rfl) ?_
  intro p e s m below meth c ls X hr hml hlocks hP hl
  have hS : va_S A s.heap s.heap [] := va_S.rf
  have hl : lv_has ls 4 [(0, .ref (G 0))] := hl
  refine lv_aload_n X.1 X.2.1 zd_R_goOn_0 rfl (lv_at hl 0 rfl) ?_
  refine g_mR_heapTarget X hP zd_R_goOn_1 ?_
  refine lv_aload_n X.1 X.2.1 zd_R_goOn_4 rfl (lv_at hl 0 rfl) ?_
  refine g_mR_heap X hP zd_R_goOn_5 ?_
  refine lv_iconst (v := nI 1) X.1 X.2.1 zd_R_goOn_8 (by decide) ?_
  refine lv_isub X.1 X.2.1 zd_R_goOn_9 ?_
  refine z_top (pk_sub (by omega)) ?_
  refine l_mR_heapTarget X hP (by omega) zd_R_goOn_10 ?_
  refine lv_istore_n (lv' := [(1, .int (nI (mR_heapTarget σ ((mR_heap σ) - 1)))), (0, .ref (G 0))]) X.1 X.2.1 zd_R_goOn_11 rfl hl (by decide) rfl (fun ls hl => ?_)
  refine lv_aload_n X.1 X.2.1 zd_R_goOn_12 rfl (lv_at hl 1 rfl) ?_
  refine g_mR_heapAspect X hP zd_R_goOn_13 ?_
  refine lv_aload_n X.1 X.2.1 zd_R_goOn_16 rfl (lv_at hl 1 rfl) ?_
  refine g_mR_heap X hP zd_R_goOn_17 ?_
  refine lv_iconst (v := nI 1) X.1 X.2.1 zd_R_goOn_20 (by decide) ?_
  refine lv_isub X.1 X.2.1 zd_R_goOn_21 ?_
  refine z_top (pk_sub (by omega)) ?_
  refine l_mR_heapAspect X hP (by omega) zd_R_goOn_22 ?_
  refine lv_istore_n (lv' := [(2, .int (nI (mR_heapAspect σ ((mR_heap σ) - 1)))), (1, .int (nI (mR_heapTarget σ ((mR_heap σ) - 1)))), (0, .ref (G 0))]) X.1 X.2.1 zd_R_goOn_23 rfl hl (by decide) rfl (fun ls hl => ?_)
  refine lv_aload_n X.1 X.2.1 zd_R_goOn_24 rfl (lv_at hl 2 rfl) ?_
  refine lv_iload_n X.1 X.2.1 zd_R_goOn_25 rfl (lv_at hl 1 rfl) ?_
  refine lv_iload_n X.1 X.2.1 zd_R_goOn_26 rfl (lv_at hl 0 rfl) ?_
  refine z_callVi (As := [.int (nI (mR_heapTarget σ ((mR_heap σ) - 1))), .int (nI (mR_heapAspect σ ((mR_heap σ) - 1)))]) (rest := []) (q0 := 0) (ci := 4) X hml (r_waitsForNeed l K G A hD σ (mR_heapTarget σ (mR_heap σ - 1)) (mR_heapAspect σ (mR_heap σ - 1)) h5 h6 hB hk (by omega) hkn2) (zk_R_133 X.2.2.2.1 (z_rm (by omega) (by decide))) rfl rfl rfl hP hS rfl hl.1 rfl (Nat.le_of_ble_eq_true rfl) zd_R_goOn_27 ⟨Nat.zero_le _, Nat.zero_le _⟩ (fun H locs hP hS => ?_)
  refine lv_if_eq (tgt := 34) X.1 X.2.1 zd_R_goOn_30 (by decide) (fun c1 => ?_) (fun c1 => ?_)
  · rw [z_eq0 (Nat.lt_of_le_of_lt (mWN_le _ _) (by decide))] at c1
    rw [mWN_0 c1] at hP
    refine lv_iload_n X.1 X.2.1 zd_R_goOn_34 rfl (lv_at hl 1 rfl) ?_
    refine lv_iload_n X.1 X.2.1 zd_R_goOn_35 rfl (lv_at hl 0 rfl) ?_
    refine lv_aload_n X.1 X.2.1 zd_R_goOn_36 rfl (lv_at hl 2 rfl) ?_
    refine g_mR_setting X hP zd_R_goOn_37 ?_
    refine z_callSi (As := [.int (nI (mR_heapTarget σ ((mR_heap σ) - 1))), .int (nI (mR_heapAspect σ ((mR_heap σ) - 1))), .int (nI (mR_setting σ))]) (rest := []) X hml (r_placeOf l K G A hD σ (mR_heapTarget σ ((mR_heap σ) - 1)) (mR_heapAspect σ ((mR_heap σ) - 1)) (mR_setting σ)) (zk_R_103 X.2.2.2.1 (z_rm (by omega) (by decide))) hP hS rfl hl.1 rfl (Nat.le_of_ble_eq_true rfl) zd_R_goOn_40 ⟨Nat.zero_le _, Nat.zero_le _⟩ (fun H locs hP hS => ?_)
    refine lv_istore_n (lv' := [(3, .int (nI (((mR_heapTarget σ ((mR_heap σ) - 1)) * 8 + (mR_heapAspect σ ((mR_heap σ) - 1))) * 16 + (mR_setting σ)))), (2, .int (nI (mR_heapAspect σ ((mR_heap σ) - 1)))), (1, .int (nI (mR_heapTarget σ ((mR_heap σ) - 1)))), (0, .ref (G 0))]) X.1 X.2.1 zd_R_goOn_43 rfl hl (by decide) rfl (fun ls hl => ?_)
    refine lv_aload_n X.1 X.2.1 zd_R_goOn_44 rfl (lv_at hl 3 rfl) ?_
    refine lv_iload_n X.1 X.2.1 zd_R_goOn_45 rfl (lv_at hl 2 rfl) ?_
    refine lv_iload_n X.1 X.2.1 zd_R_goOn_46 rfl (lv_at hl 1 rfl) ?_
    refine z_callVi (As := [.int (nI (mR_heapTarget σ ((mR_heap σ) - 1))), .int (nI (mR_heapAspect σ ((mR_heap σ) - 1)))]) (rest := []) (q0 := 0) (ci := 4) X hml (r_hasAllWanted l K G A hD σ (mR_heapTarget σ (mR_heap σ - 1)) (mR_heapAspect σ (mR_heap σ - 1)) h5 h6 hB hk hkn2) (zk_R_136 X.2.2.2.1 (z_rm (by omega) (by decide))) rfl rfl rfl hP hS rfl hl.1 rfl (Nat.le_of_ble_eq_true rfl) zd_R_goOn_47 ⟨Nat.zero_le _, Nat.zero_le _⟩ (fun H locs hP hS => ?_)
    refine lv_if_ne (tgt := 71) X.1 X.2.1 zd_R_goOn_50 (by decide) (fun c2 => ?_) (fun c2 => ?_)
    · rw [z_eq0 (mAll_lt _ _ _)] at c2
      refine lv_aload_n X.1 X.2.1 zd_R_goOn_71 rfl (lv_at hl 3 rfl) ?_
      refine lv_iload_n X.1 X.2.1 zd_R_goOn_72 rfl (lv_at hl 2 rfl) ?_
      refine lv_iload_n X.1 X.2.1 zd_R_goOn_73 rfl (lv_at hl 1 rfl) ?_
      refine z_callVi (As := [.int (nI (mR_heapTarget σ ((mR_heap σ) - 1))), .int (nI (mR_heapAspect σ ((mR_heap σ) - 1)))]) (rest := []) (q0 := 0) (ci := 4) X hml (r_waitsForTarget l K G A hD σ (mR_heapTarget σ (mR_heap σ - 1)) (mR_heapAspect σ (mR_heap σ - 1)) h5 h6 hB hk (by omega) hkn2) (zk_R_139 X.2.2.2.1 (z_rm (by omega) (by decide))) rfl rfl rfl hP hS rfl hl.1 rfl (Nat.le_of_ble_eq_true rfl) zd_R_goOn_74 ⟨Nat.zero_le _, Nat.zero_le _⟩ (fun H locs hP hS => ?_)
      refine lv_if_eq (tgt := 81) X.1 X.2.1 zd_R_goOn_77 (by decide) (fun c3 => ?_) (fun c3 => ?_)
      · rw [z_eq0 (Nat.lt_of_le_of_lt (mWT_le _ _) (by decide))] at c3
        rw [mWT_0 c3] at hP
        refine lv_aload_n X.1 X.2.1 zd_R_goOn_81 rfl (lv_at hl 3 rfl) ?_
        refine lv_iload_n X.1 X.2.1 zd_R_goOn_82 rfl (lv_at hl 2 rfl) ?_
        refine lv_iload_n X.1 X.2.1 zd_R_goOn_83 rfl (lv_at hl 1 rfl) ?_
        refine z_callVi (As := [.int (nI (mR_heapTarget σ ((mR_heap σ) - 1))), .int (nI (mR_heapAspect σ ((mR_heap σ) - 1)))]) (rest := []) (q0 := 0) (ci := 4) X hml (r_makes l K G A hD σ (mR_heapTarget σ (mR_heap σ - 1)) (mR_heapAspect σ (mR_heap σ - 1)) h5 h6 hB hk hmb) (zk_R_142 X.2.2.2.1 (z_rm (by omega) (by decide))) rfl rfl rfl hP hS rfl hl.1 rfl (Nat.le_of_ble_eq_true rfl) zd_R_goOn_84 ⟨Nat.zero_le _, Nat.zero_le _⟩ (fun H locs hP hS => ?_)
        refine lv_if_ne (tgt := 101) X.1 X.2.1 zd_R_goOn_87 (by decide) (fun c4 => ?_) (fun c4 => ?_)
        · rw [z_eq0 (mMakes_lt _ _ _)] at c4
          obtain ⟨hms, hmk, hmn, hmh⟩ := mMakes_same σ (mR_heapTarget σ (mR_heap σ - 1)) (mR_heapAspect σ (mR_heap σ - 1))
          have hBm : mB (mMakes σ (mR_heapTarget σ (mR_heap σ - 1)) (mR_heapAspect σ (mR_heap σ - 1))).2 := mB_same hms hB
          have hkm : mR_setting (mMakes σ (mR_heapTarget σ (mR_heap σ - 1)) (mR_heapAspect σ (mR_heap σ - 1))).2 < 16 := by rw [hmk]; exact hk
          have hknm : ∀ q, mR_known (mMakes σ (mR_heapTarget σ (mR_heap σ - 1)) (mR_heapAspect σ (mR_heap σ - 1))).2 q ≤ 2 := by rw [hmn]; exact hkn2
          generalize hτ : (mMakes σ (mR_heapTarget σ (mR_heap σ - 1)) (mR_heapAspect σ (mR_heap σ - 1))).2 = τ at hP hms hmk hmn hmh hBm hkm hknm
          refine lv_aload_n X.1 X.2.1 zd_R_goOn_101 rfl (lv_at hl 3 rfl) ?_
          refine g_mR_results X hP zd_R_goOn_102 ?_
          refine lv_iload_n X.1 X.2.1 zd_R_goOn_105 rfl (lv_at hl 0 rfl) ?_
          refine lv_aload_n X.1 X.2.1 zd_R_goOn_106 rfl (lv_at hl 3 rfl) ?_
          refine lv_iload_n X.1 X.2.1 zd_R_goOn_107 rfl (lv_at hl 2 rfl) ?_
          refine lv_iload_n X.1 X.2.1 zd_R_goOn_108 rfl (lv_at hl 1 rfl) ?_
          refine z_callVl (As := [.int (nI (mR_heapTarget σ ((mR_heap σ) - 1))), .int (nI (mR_heapAspect σ ((mR_heap σ) - 1)))]) (rest := [.int (nI (((mR_heapTarget σ ((mR_heap σ) - 1)) * 8 + (mR_heapAspect σ ((mR_heap σ) - 1))) * 16 + (mR_setting σ))), .ref (G 14)]) (q0 := 0) (ci := 4) X hml (r_resultOf l K G A hD τ (mR_heapTarget σ (mR_heap σ - 1)) (mR_heapAspect σ (mR_heap σ - 1)) h5 h6 hBm hkm hknm) (zk_R_149 X.2.2.2.1 (z_rm (by omega) (by decide))) rfl rfl rfl hP hS rfl hl.1 rfl (Nat.le_of_ble_eq_true rfl) zd_R_goOn_109 ⟨Nat.zero_le _, Nat.zero_le _⟩ (fun H locs hP hS => ?_)
          refine s_mR_results X hD hP hS (by omega) zd_R_goOn_112 (fun H locs hP hS => ?_)
          have hP : va_P K.1 zcl (mW K G (p_mR_results τ (vp_updL (mR_results τ) (((mR_heapTarget σ ((mR_heap σ) - 1)) * 8 + (mR_heapAspect σ ((mR_heap σ) - 1))) * 16 + (mR_setting σ)) (mRes τ (mR_heapTarget σ (mR_heap σ - 1)) (mR_heapAspect σ (mR_heap σ - 1)))))) H := hP
          refine lv_aload_n X.1 X.2.1 zd_R_goOn_113 rfl (lv_at hl 3 rfl) ?_
          refine g_mR_known X hP zd_R_goOn_114 ?_
          refine lv_iload_n X.1 X.2.1 zd_R_goOn_117 rfl (lv_at hl 0 rfl) ?_
          refine lv_iconst (v := nI 2) X.1 X.2.1 zd_R_goOn_118 (by decide) ?_
          refine s_mR_known X hD hP hS (by omega) zd_R_goOn_119 (fun H locs hP hS => ?_)
          have hP : va_P K.1 zcl (mW K G (p_mR_known (p_mR_results τ (vp_updL (mR_results τ) (((mR_heapTarget σ ((mR_heap σ) - 1)) * 8 + (mR_heapAspect σ ((mR_heap σ) - 1))) * 16 + (mR_setting σ)) (mRes τ (mR_heapTarget σ (mR_heap σ - 1)) (mR_heapAspect σ (mR_heap σ - 1))))) (upN (mR_known τ) (((mR_heapTarget σ ((mR_heap σ) - 1)) * 8 + (mR_heapAspect σ ((mR_heap σ) - 1))) * 16 + (mR_setting σ)) 2))) H := hP
          refine lv_aload_n X.1 X.2.1 zd_R_goOn_120 rfl (lv_at hl 3 rfl) ?_
          refine g_mR_times X hP zd_R_goOn_121 ?_
          refine lv_bipush (v := nI 8) X.1 X.2.1 zd_R_goOn_124 (by decide) ?_
          refine lv_iload_n X.1 X.2.1 zd_R_goOn_126 rfl (lv_at hl 2 rfl) ?_
          refine lv_imul X.1 X.2.1 zd_R_goOn_127 ?_
          refine z_top (pk_mul _ _) ?_
          refine lv_iload_n X.1 X.2.1 zd_R_goOn_128 rfl (lv_at hl 1 rfl) ?_
          refine lv_iadd X.1 X.2.1 zd_R_goOn_129 ?_
          refine z_top (nI_add _ _) ?_
          refine lv_dup2_11 X.1 X.2.1 zd_R_goOn_130 rfl rfl ?_
          refine l_mR_times X hP (by omega) zd_R_goOn_131 ?_
          refine z_top (y := (mR_times τ ((8 * (mR_heapTarget σ ((mR_heap σ) - 1))) + (mR_heapAspect σ ((mR_heap σ) - 1))))) rfl ?_
          refine lv_iconst (v := nI 1) X.1 X.2.1 zd_R_goOn_132 (by decide) ?_
          refine lv_iadd X.1 X.2.1 zd_R_goOn_133 ?_
          refine s_mR_times X hD hP hS (by omega) zd_R_goOn_134 (fun H locs hP hS => ?_)
          have hP : va_P K.1 zcl (mW K G (p_mR_times (p_mR_known (p_mR_results τ (vp_updL (mR_results τ) (((mR_heapTarget σ ((mR_heap σ) - 1)) * 8 + (mR_heapAspect σ ((mR_heap σ) - 1))) * 16 + (mR_setting σ)) (mRes τ (mR_heapTarget σ (mR_heap σ - 1)) (mR_heapAspect σ (mR_heap σ - 1))))) (upN (mR_known τ) (((mR_heapTarget σ ((mR_heap σ) - 1)) * 8 + (mR_heapAspect σ ((mR_heap σ) - 1))) * 16 + (mR_setting σ)) 2)) (upd (mR_times τ) ((8 * (mR_heapTarget σ ((mR_heap σ) - 1))) + (mR_heapAspect σ ((mR_heap σ) - 1))) ((mR_times τ ((8 * (mR_heapTarget σ ((mR_heap σ) - 1))) + (mR_heapAspect σ ((mR_heap σ) - 1)))) + (nI 1))))) H := hP
          refine lv_aload_n X.1 X.2.1 zd_R_goOn_135 rfl (lv_at hl 3 rfl) ?_
          refine lv_dup X.1 X.2.1 zd_R_goOn_136 rfl ?_
          refine g_mR_heap X hP zd_R_goOn_137 ?_
          refine z_top (y := (nI (mR_heap τ))) rfl ?_
          refine lv_iconst (v := nI 1) X.1 X.2.1 zd_R_goOn_140 (by decide) ?_
          refine lv_isub X.1 X.2.1 zd_R_goOn_141 ?_
          refine z_top (pk_sub (by omega)) ?_
          refine s_mR_heap X hD hP hS zd_R_goOn_142 (fun H locs hP hS => ?_)
          have hP : va_P K.1 zcl (mW K G (p_mR_heap (p_mR_times (p_mR_known (p_mR_results τ (vp_updL (mR_results τ) (((mR_heapTarget σ ((mR_heap σ) - 1)) * 8 + (mR_heapAspect σ ((mR_heap σ) - 1))) * 16 + (mR_setting σ)) (mRes τ (mR_heapTarget σ (mR_heap σ - 1)) (mR_heapAspect σ (mR_heap σ - 1))))) (upN (mR_known τ) (((mR_heapTarget σ ((mR_heap σ) - 1)) * 8 + (mR_heapAspect σ ((mR_heap σ) - 1))) * 16 + (mR_setting σ)) 2)) (upd (mR_times τ) ((8 * (mR_heapTarget σ ((mR_heap σ) - 1))) + (mR_heapAspect σ ((mR_heap σ) - 1))) ((mR_times τ ((8 * (mR_heapTarget σ ((mR_heap σ) - 1))) + (mR_heapAspect σ ((mR_heap σ) - 1)))) + (nI 1)))) ((mR_heap τ) - 1))) H := hP
          exact z_vret X.1 X.2.1 hr hlocks (by rw [mGo, if_pos c1, if_neg c2, if_pos c3, if_neg c4, hτ]; unfold mDone mPl; rw [hmk, hmh]) hP hS zd_R_goOn_145
        · rw [z_eq0 (mMakes_lt _ _ _)] at c4
          refine lv_aload_n X.1 X.2.1 zd_R_goOn_90 rfl (lv_at hl 3 rfl) ?_
          refine lv_iconst (v := nI 1) X.1 X.2.1 zd_R_goOn_91 (by decide) ?_
          refine s_mR_clashes X hD hP hS (by omega) zd_R_goOn_92 (fun H locs hP hS => ?_)
          have hP : va_P K.1 zcl (mW K G (p_mR_clashes ((mMakes σ (mR_heapTarget σ (mR_heap σ - 1)) (mR_heapAspect σ (mR_heap σ - 1))).2) 1)) H := hP
          refine lv_aload_n X.1 X.2.1 zd_R_goOn_95 rfl (lv_at hl 3 rfl) ?_
          refine lv_iconst (v := nI 0) X.1 X.2.1 zd_R_goOn_96 (by decide) ?_
          refine s_mR_heap X hD hP hS zd_R_goOn_97 (fun H locs hP hS => ?_)
          have hP : va_P K.1 zcl (mW K G (p_mR_heap (p_mR_clashes ((mMakes σ (mR_heapTarget σ (mR_heap σ - 1)) (mR_heapAspect σ (mR_heap σ - 1))).2) 1) 0)) H := hP
          exact z_vret X.1 X.2.1 hr hlocks (by rw [mGo, if_pos c1, if_neg c2, if_pos c3, if_pos c4]; try rfl) hP hS zd_R_goOn_100
      · rw [z_eq0 (Nat.lt_of_le_of_lt (mWT_le _ _) (by decide))] at c3
        exact z_vret X.1 X.2.1 hr hlocks (by rw [mGo, if_pos c1, if_neg c2, if_neg c3]; try rfl) hP hS zd_R_goOn_80
    · rw [z_eq0 (mAll_lt _ _ _)] at c2
      refine lv_aload_n X.1 X.2.1 zd_R_goOn_53 rfl (lv_at hl 3 rfl) ?_
      refine g_mR_known X hP zd_R_goOn_54 ?_
      refine lv_iload_n X.1 X.2.1 zd_R_goOn_57 rfl (lv_at hl 0 rfl) ?_
      refine lv_iconst (v := nI 1) X.1 X.2.1 zd_R_goOn_58 (by decide) ?_
      refine s_mR_known X hD hP hS (by omega) zd_R_goOn_59 (fun H locs hP hS => ?_)
      have hP : va_P K.1 zcl (mW K G (p_mR_known σ (upN (mR_known σ) (((mR_heapTarget σ ((mR_heap σ) - 1)) * 8 + (mR_heapAspect σ ((mR_heap σ) - 1))) * 16 + (mR_setting σ)) 1))) H := hP
      refine lv_aload_n X.1 X.2.1 zd_R_goOn_60 rfl (lv_at hl 3 rfl) ?_
      refine lv_dup X.1 X.2.1 zd_R_goOn_61 rfl ?_
      refine g_mR_heap X hP zd_R_goOn_62 ?_
      refine z_top (y := (nI (mR_heap σ))) rfl ?_
      refine lv_iconst (v := nI 1) X.1 X.2.1 zd_R_goOn_65 (by decide) ?_
      refine lv_isub X.1 X.2.1 zd_R_goOn_66 ?_
      refine z_top (pk_sub (by omega)) ?_
      refine s_mR_heap X hD hP hS zd_R_goOn_67 (fun H locs hP hS => ?_)
      have hP : va_P K.1 zcl (mW K G (p_mR_heap (p_mR_known σ (upN (mR_known σ) (((mR_heapTarget σ ((mR_heap σ) - 1)) * 8 + (mR_heapAspect σ ((mR_heap σ) - 1))) * 16 + (mR_setting σ)) 1)) ((mR_heap σ) - 1))) H := hP
      exact z_vret X.1 X.2.1 hr hlocks (by rw [mGo, if_pos c1, if_pos c2]; try rfl) hP hS zd_R_goOn_70
  · rw [z_eq0 (Nat.lt_of_le_of_lt (mWN_le _ _) (by decide))] at c1
    exact z_vret X.1 X.2.1 hr hlocks (by rw [mGo, if_neg c1]; try rfl) hP hS zd_R_goOn_33

/-- where apply begins -/
def mStart (σ : mS) (t a k : Nat) : mS := if mR_known σ ((mR_standsFor σ t * 8 + a) * 16 + k) = 0 then mPush (p_mR_heap (p_mR_clashes (p_mR_setting (p_mR_thrown σ 0) k) 0) 0) (mR_standsFor σ t) a else p_mR_heap (p_mR_clashes (p_mR_setting (p_mR_thrown σ 0) k) 0) 0
def mAns (σ : mS) (q : Nat) : Int32 := if mR_clashes σ = 0 then (if mR_known σ q = 2 then nI 1 else nI 0) else -2
def mCnt (σ : mS) : Nat → Nat
  | 0 => 0
  | i + 1 => mCnt σ i + (if mR_known σ i = 2 then 1 else 0)

set_option maxHeartbeats 4000000 in
set_option maxRecDepth 100000 in
/-- apply's loop -/
theorem q_R_apply {p : Program} {e : Env} {s : State} {m : MethodId} {args : Array Value} {below : List Frame} {meth : Method} {c : Code} (l : Launch) (K : zK) (G : Nat → Nat) (A : Nat → Prop) (hD : ∀ σ, va_D A (mW K G σ)) (X : zFx K zR_R zb_R_apply p s m args c) (hr : meth.sig.returnType = some .int) (hml : c.maxLocals = 5) (hlocks : meth.locks = false) (t a k q : Nat) (hq : q < 2560) : ∀ (n : Nat) (σ : mS), (∀ i, i < n → mGoOk (mIter σ i)) → mR_heap (mIter σ n) = 0 → mR_clashes (mIter σ n) ≤ 1 → (∀ q, mR_known (mIter σ n) q ≤ 2) → ∀ (H : Heap) (locs : List Loc) (ls : Array Slot), va_P K.1 zcl (mW K G σ) H → va_S A s.heap H locs → lv_has ls 5 [(4, .int (nI q)), (0, .ref (G 0)), (1, .int (nI t)), (2, .int (nI a)), (3, .int (nI k))] → W p l e (zrm 3) s m args below meth c H locs 0 0 (MQ below (zPost K A (mW K G (mIter σ n)) (some (.int (mAns (mIter σ n) q)))) args s 0 0 A) (F0 m 79 ls []) := by
  intro n
  induction n with
  | zero =>
    intro σ hgo h0 hc1 hkn2 H locs ls hP hS hl
    have h0 : mR_heap σ = 0 := h0
    have hc1 : mR_clashes σ ≤ 1 := hc1
    have hknq : mR_known σ q ≤ 2 := hkn2 q
    refine lv_aload_n X.1 X.2.1 zd_R_apply_79 rfl (lv_at hl 1 rfl) ?_
    refine g_mR_heap X hP zd_R_apply_80 ?_
    refine lv_if_le (tgt := 93) X.1 X.2.1 zd_R_apply_83 (by decide) (fun _ => ?_) (fun h9 => absurd (by rw [h0]; decide) h9)
    refine lv_aload_n X.1 X.2.1 zd_R_apply_93 rfl (lv_at hl 1 rfl) ?_
    refine g_mR_clashes X hP zd_R_apply_94 ?_
    refine lv_if_eq (tgt := 105) X.1 X.2.1 zd_R_apply_97 (by decide) (fun c1 => ?_) (fun c1 => ?_)
    · rw [z_eq0 (by omega)] at c1
      refine lv_aload_n X.1 X.2.1 zd_R_apply_105 rfl (lv_at hl 1 rfl) ?_
      refine g_mR_known X hP zd_R_apply_106 ?_
      refine lv_iload X.1 X.2.1 zd_R_apply_109 (lv_at hl 0 rfl) ?_
      refine l_mR_known X hP (by omega) zd_R_apply_111 ?_
      refine lv_iconst (v := nI 2) X.1 X.2.1 zd_R_apply_112 (by decide) ?_
      refine lv_icmp_ne (tgt := 120) X.1 X.2.1 zd_R_apply_113 (by decide) (fun c2 => ?_) (fun c2 => ?_)
      · rw [nI_eq (by omega) (by omega)] at c2
        refine lv_iconst (v := nI 0) X.1 X.2.1 zd_R_apply_120 (by decide) ?_
        exact z_iret X.1 X.2.1 hr hlocks (by rw [mIter, mAns, if_pos c1, if_neg c2]) rfl hP hS zd_R_apply_121
      · rw [nI_eq (by omega) (by omega)] at c2
        refine lv_iconst (v := nI 1) X.1 X.2.1 zd_R_apply_116 (by decide) ?_
        refine lv_goto (tgt := 121) X.1 X.2.1 zd_R_apply_117 (by decide) ?_
        exact z_iret X.1 X.2.1 hr hlocks (by rw [mIter, mAns, if_pos c1, if_pos c2]) rfl hP hS zd_R_apply_121
    · rw [z_eq0 (by omega)] at c1
      refine lv_bipush (v := -2) X.1 X.2.1 zd_R_apply_100 (by decide) ?_
      refine lv_goto (tgt := 121) X.1 X.2.1 zd_R_apply_102 (by decide) ?_
      exact z_iret X.1 X.2.1 hr hlocks (by rw [mIter, mAns, if_neg c1]) rfl hP hS zd_R_apply_121
  | succ n ih =>
    intro σ hgo h0 hc1 hkn2 H locs ls hP hS hl
    have hok : mGoOk σ := hgo 0 (by omega)
    have h1 := hok.2.2.2.2.1
    have h2 := hok.2.2.2.2.2.1
    refine lv_aload_n X.1 X.2.1 zd_R_apply_79 rfl (lv_at hl 1 rfl) ?_
    refine g_mR_heap X hP zd_R_apply_80 ?_
    refine lv_if_le (tgt := 93) X.1 X.2.1 zd_R_apply_83 (by decide) (fun h9 => absurd h9 (nI_nle (by omega) (by omega))) (fun _ => ?_)
    refine lv_aload_n X.1 X.2.1 zd_R_apply_86 rfl (lv_at hl 1 rfl) ?_
    refine z_callVv (As := []) (rest := []) (q0 := 0) (ci := 4) X hml (r_goOn l K G A hD σ hok) (zk_R_156 X.2.2.2.1 (z_rm (by omega) (by decide))) rfl rfl rfl hP hS rfl hl.1 rfl (Nat.le_of_ble_eq_true rfl) zd_R_apply_87 ⟨Nat.zero_le _, Nat.zero_le _⟩ (fun H locs hP hS => ?_)
    refine lv_goto (tgt := 79) X.1 X.2.1 zd_R_apply_90 (by decide) ?_
    exact ih (mGo σ) (fun i hi => hgo (i + 1) (by omega)) h0 hc1 hkn2 H locs ls hP hS (lv_sub hl [0, 1, 2, 3, 4] rfl)

set_option maxHeartbeats 4000000 in
set_option maxRecDepth 100000 in
/-- apply: none such -/
theorem r_apply_n (l : Launch) (K : zK) (G : Nat → Nat) (A : Nat → Prop) (hD : ∀ σ, va_D A (mW K G σ)) (σ : mS) (x y z : Int32) (hB : mB σ) (h : ¬ ∃ t a k, t < mR_targets σ ∧ x = nI t ∧ a < mR_aspects σ ∧ y = nI a ∧ k < 16 ∧ z = nI k) : zMet l K A zy_R_apply zws_R_apply 1 [.ref (G 0), .int x, .int y, .int z] (mW K G σ) (mW K G (p_mR_thrown σ 0)) (some (.int (-1))) := by
  have hBo := hB.1
  have hBa := hB.2.1
  refine z_entry (by decide) (Nat.le_of_ble_eq_true rfl) ?_
  intro p e s m below meth c ls X hr hml hlocks hP hl
  have hS : va_S A s.heap s.heap [] := va_S.rf
  have hl : lv_has ls 5 [(0, .ref (G 0)), (1, .int x), (2, .int y), (3, .int z)] := hl
  refine lv_aload_n X.1 X.2.1 zd_R_apply_0 rfl (lv_at hl 0 rfl) ?_
  refine lv_iconst (v := nI 0) X.1 X.2.1 zd_R_apply_1 (by decide) ?_
  refine s_mR_thrown X hD hP hS zd_R_apply_2 (fun H locs hP hS => ?_)
  have hP : va_P K.1 zcl (mW K G (p_mR_thrown σ 0)) H := hP
  refine lv_aload_n X.1 X.2.1 zd_R_apply_5 rfl (lv_at hl 0 rfl) ?_
  refine lv_iload_n X.1 X.2.1 zd_R_apply_6 rfl (lv_at hl 1 rfl) ?_
  refine z_callVi (As := [.int x]) (rest := []) (q0 := 0) (ci := 4) X hml (r_isTarget l K G A hD (p_mR_thrown σ 0) x) (zk_R_82 X.2.2.2.1 (z_rm (by omega) (by decide))) rfl rfl rfl hP hS rfl hl.1 rfl (Nat.le_of_ble_eq_true rfl) zd_R_apply_7 ⟨Nat.zero_le _, Nat.zero_le _⟩ (fun H locs hP hS => ?_)
  refine lv_if_eq (tgt := 28) X.1 X.2.1 zd_R_apply_10 (by decide) (fun c1 => ?_) (fun c1 => ?_)
  · rw [z_eq0 (cHas_lt _ _)] at c1
    refine lv_iconst (v := -1) X.1 X.2.1 zd_R_apply_28 (by decide) ?_
    exact z_iret X.1 X.2.1 hr hlocks rfl rfl hP hS zd_R_apply_29
  · rw [z_eq0 (cHas_lt _ _)] at c1
    obtain ⟨t, ht, rfl⟩ := cHas_ex (o := mR_targets σ) (by omega) c1
    refine lv_aload_n X.1 X.2.1 zd_R_apply_13 rfl (lv_at hl 0 rfl) ?_
    refine lv_iload_n X.1 X.2.1 zd_R_apply_14 rfl (lv_at hl 2 rfl) ?_
    refine z_callVi (As := [.int y]) (rest := []) (q0 := 0) (ci := 4) X hml (r_isAspect l K G A hD (p_mR_thrown σ 0) y) (zk_R_107 X.2.2.2.1 (z_rm (by omega) (by decide))) rfl rfl rfl hP hS rfl hl.1 rfl (Nat.le_of_ble_eq_true rfl) zd_R_apply_15 ⟨Nat.zero_le _, Nat.zero_le _⟩ (fun H locs hP hS => ?_)
    refine lv_if_eq (tgt := 28) X.1 X.2.1 zd_R_apply_18 (by decide) (fun c2 => ?_) (fun c2 => ?_)
    · rw [z_eq0 (cHas_lt _ _)] at c2
      refine lv_iconst (v := -1) X.1 X.2.1 zd_R_apply_28 (by decide) ?_
      exact z_iret X.1 X.2.1 hr hlocks rfl rfl hP hS zd_R_apply_29
    · rw [z_eq0 (cHas_lt _ _)] at c2
      obtain ⟨a, ha, rfl⟩ := cHas_ex (o := mR_aspects σ) (by omega) c2
      refine lv_iload_n X.1 X.2.1 zd_R_apply_21 rfl (lv_at hl 3 rfl) ?_
      refine z_callSi (As := [.int z]) (rest := []) X hml (r_isSetting l K G A hD (p_mR_thrown σ 0) z) (zk_R_153 X.2.2.2.1 (z_rm (by omega) (by decide))) hP hS rfl hl.1 rfl (Nat.le_of_ble_eq_true rfl) zd_R_apply_22 ⟨Nat.zero_le _, Nat.zero_le _⟩ (fun H locs hP hS => ?_)
      refine lv_if_ne (tgt := 30) X.1 X.2.1 zd_R_apply_25 (by decide) (fun c3 => ?_) (fun c3 => ?_)
      · rw [z_eq0 (cHas_lt _ _)] at c3
        obtain ⟨k, hk, rfl⟩ := cHas_ex (o := 16) (by omega) c3
        exact absurd ⟨t, a, k, ht, rfl, ha, rfl, hk, rfl⟩ h
      · rw [z_eq0 (cHas_lt _ _)] at c3
        refine lv_iconst (v := -1) X.1 X.2.1 zd_R_apply_28 (by decide) ?_
        exact z_iret X.1 X.2.1 hr hlocks rfl rfl hP hS zd_R_apply_29

set_option maxHeartbeats 4000000 in
set_option maxRecDepth 100000 in
/-- apply: to be done -/
theorem r_apply_1 (l : Launch) (K : zK) (G : Nat → Nat) (A : Nat → Prop) (hD : ∀ σ, va_D A (mW K G σ)) (σ : mS) (t a k : Nat) (hB : mB σ) (ht : t < mR_targets σ) (ha : a < mR_aspects σ) (hk : k < 16) (n : Nat) (hgo : ∀ i, i < n → mGoOk (mIter (mStart σ t a k) i)) (hn0 : mR_heap (mIter (mStart σ t a k) n) = 0) (hc1 : mR_clashes (mIter (mStart σ t a k) n) ≤ 1) (hkn2 : ∀ q, mR_known (mIter (mStart σ t a k) n) q ≤ 2) (hknp : mR_known σ ((mR_standsFor σ t * 8 + a) * 16 + k) ≤ 2) (h0k : mR_known σ ((mR_standsFor σ t * 8 + a) * 16 + k) = 0) : zMet l K A zy_R_apply zws_R_apply 3 [.ref (G 0), .int (nI t), .int (nI a), .int (nI k)] (mW K G σ) (mW K G (mIter (mStart σ t a k) n)) (some (.int (mAns (mIter (mStart σ t a k) n) ((mR_standsFor σ t * 8 + a) * 16 + k)))) := by
  have hBo := hB.1
  have hBa := hB.2.1
  have hst := hB.2.2.1 t
  refine z_entry (by decide) (Nat.le_of_ble_eq_true rfl) ?_
  intro p e s m below meth c ls X hr hml hlocks hP hl
  have hS : va_S A s.heap s.heap [] := va_S.rf
  have hl : lv_has ls 5 [(0, .ref (G 0)), (1, .int (nI t)), (2, .int (nI a)), (3, .int (nI k))] := hl
  refine lv_aload_n X.1 X.2.1 zd_R_apply_0 rfl (lv_at hl 0 rfl) ?_
  refine lv_iconst (v := nI 0) X.1 X.2.1 zd_R_apply_1 (by decide) ?_
  refine s_mR_thrown X hD hP hS zd_R_apply_2 (fun H locs hP hS => ?_)
  have hP : va_P K.1 zcl (mW K G (p_mR_thrown σ 0)) H := hP
  refine lv_aload_n X.1 X.2.1 zd_R_apply_5 rfl (lv_at hl 0 rfl) ?_
  refine lv_iload_n X.1 X.2.1 zd_R_apply_6 rfl (lv_at hl 1 rfl) ?_
  refine z_callVi (As := [.int (nI t)]) (rest := []) (q0 := 0) (ci := 4) X hml (r_isTarget l K G A hD (p_mR_thrown σ 0) (nI t)) (zk_R_82 X.2.2.2.1 (z_rm (by omega) (by decide))) rfl rfl rfl hP hS rfl hl.1 rfl (Nat.le_of_ble_eq_true rfl) zd_R_apply_7 ⟨Nat.zero_le _, Nat.zero_le _⟩ (fun H locs hP hS => ?_)
  refine lv_if_eq (tgt := 28) X.1 X.2.1 zd_R_apply_10 (by decide) (fun h9 => absurd h9 (by show ¬ nI (cHas (mR_targets σ) _) = 0; rw [cHas_y ht (by omega)]; decide)) (fun _ => ?_)
  refine lv_aload_n X.1 X.2.1 zd_R_apply_13 rfl (lv_at hl 0 rfl) ?_
  refine lv_iload_n X.1 X.2.1 zd_R_apply_14 rfl (lv_at hl 2 rfl) ?_
  refine z_callVi (As := [.int (nI a)]) (rest := []) (q0 := 0) (ci := 4) X hml (r_isAspect l K G A hD (p_mR_thrown σ 0) (nI a)) (zk_R_107 X.2.2.2.1 (z_rm (by omega) (by decide))) rfl rfl rfl hP hS rfl hl.1 rfl (Nat.le_of_ble_eq_true rfl) zd_R_apply_15 ⟨Nat.zero_le _, Nat.zero_le _⟩ (fun H locs hP hS => ?_)
  refine lv_if_eq (tgt := 28) X.1 X.2.1 zd_R_apply_18 (by decide) (fun h9 => absurd h9 (by show ¬ nI (cHas (mR_aspects σ) _) = 0; rw [cHas_y ha (by omega)]; decide)) (fun _ => ?_)
  refine lv_iload_n X.1 X.2.1 zd_R_apply_21 rfl (lv_at hl 3 rfl) ?_
  refine z_callSi (As := [.int (nI k)]) (rest := []) X hml (r_isSetting l K G A hD (p_mR_thrown σ 0) (nI k)) (zk_R_153 X.2.2.2.1 (z_rm (by omega) (by decide))) hP hS rfl hl.1 rfl (Nat.le_of_ble_eq_true rfl) zd_R_apply_22 ⟨Nat.zero_le _, Nat.zero_le _⟩ (fun H locs hP hS => ?_)
  refine lv_if_ne (tgt := 30) X.1 X.2.1 zd_R_apply_25 (by decide) (fun _ => ?_) (fun h9 => absurd h9 (by show ¬ nI (cHas (16) _) = 0; rw [cHas_y hk (by omega)]; decide))
  refine lv_aload_n X.1 X.2.1 zd_R_apply_30 rfl (lv_at hl 0 rfl) ?_
  refine g_mR_standsFor X hP zd_R_apply_31 ?_
  refine lv_iload_n X.1 X.2.1 zd_R_apply_34 rfl (lv_at hl 1 rfl) ?_
  refine l_mR_standsFor X hP (by omega) zd_R_apply_35 ?_
  refine z_top (y := (nI (mR_standsFor σ t))) rfl ?_
  refine lv_iload_n X.1 X.2.1 zd_R_apply_36 rfl (lv_at hl 2 rfl) ?_
  refine lv_iload_n X.1 X.2.1 zd_R_apply_37 rfl (lv_at hl 3 rfl) ?_
  refine z_callSi (As := [.int (nI (mR_standsFor σ t)), .int (nI a), .int (nI k)]) (rest := []) X hml (r_placeOf l K G A hD (p_mR_thrown σ 0) (mR_standsFor σ t) a k) (zk_R_103 X.2.2.2.1 (z_rm (by omega) (by decide))) hP hS rfl hl.1 rfl (Nat.le_of_ble_eq_true rfl) zd_R_apply_38 ⟨Nat.zero_le _, Nat.zero_le _⟩ (fun H locs hP hS => ?_)
  refine lv_istore (lv' := [(4, .int (nI (((mR_standsFor σ t) * 8 + a) * 16 + k))), (0, .ref (G 0)), (1, .int (nI t)), (2, .int (nI a)), (3, .int (nI k))]) X.1 X.2.1 zd_R_apply_41 hl (by decide) rfl (fun ls hl => ?_)
  refine lv_aload_n X.1 X.2.1 zd_R_apply_43 rfl (lv_at hl 1 rfl) ?_
  refine lv_iload_n X.1 X.2.1 zd_R_apply_44 rfl (lv_at hl 4 rfl) ?_
  refine s_mR_setting X hD hP hS zd_R_apply_45 (fun H locs hP hS => ?_)
  have hP : va_P K.1 zcl (mW K G (p_mR_setting (p_mR_thrown σ 0) k)) H := hP
  refine lv_aload_n X.1 X.2.1 zd_R_apply_48 rfl (lv_at hl 1 rfl) ?_
  refine lv_iconst (v := nI 0) X.1 X.2.1 zd_R_apply_49 (by decide) ?_
  refine s_mR_clashes X hD hP hS (by omega) zd_R_apply_50 (fun H locs hP hS => ?_)
  have hP : va_P K.1 zcl (mW K G (p_mR_clashes (p_mR_setting (p_mR_thrown σ 0) k) 0)) H := hP
  refine lv_aload_n X.1 X.2.1 zd_R_apply_53 rfl (lv_at hl 1 rfl) ?_
  refine lv_iconst (v := nI 0) X.1 X.2.1 zd_R_apply_54 (by decide) ?_
  refine s_mR_heap X hD hP hS zd_R_apply_55 (fun H locs hP hS => ?_)
  have hP : va_P K.1 zcl (mW K G (p_mR_heap (p_mR_clashes (p_mR_setting (p_mR_thrown σ 0) k) 0) 0)) H := hP
  refine lv_aload_n X.1 X.2.1 zd_R_apply_58 rfl (lv_at hl 1 rfl) ?_
  refine g_mR_known X hP zd_R_apply_59 ?_
  refine lv_iload X.1 X.2.1 zd_R_apply_62 (lv_at hl 0 rfl) ?_
  refine l_mR_known X hP (by omega) zd_R_apply_64 ?_
  refine z_top (y := (nI (mR_known σ (((mR_standsFor σ t) * 8 + a) * 16 + k)))) rfl ?_
  refine lv_if_ne (tgt := 79) X.1 X.2.1 zd_R_apply_65 (by decide) (fun h9 => absurd (by show nI (mR_known σ _) = 0; rw [h0k]; rfl) h9) (fun _ => ?_)
  refine lv_aload_n X.1 X.2.1 zd_R_apply_68 rfl (lv_at hl 1 rfl) ?_
  refine lv_aload_n X.1 X.2.1 zd_R_apply_69 rfl (lv_at hl 1 rfl) ?_
  refine g_mR_standsFor X hP zd_R_apply_70 ?_
  refine lv_iload_n X.1 X.2.1 zd_R_apply_73 rfl (lv_at hl 2 rfl) ?_
  refine l_mR_standsFor X hP (by omega) zd_R_apply_74 ?_
  refine z_top (y := (nI (mR_standsFor σ t))) rfl ?_
  refine lv_iload_n X.1 X.2.1 zd_R_apply_75 rfl (lv_at hl 3 rfl) ?_
  refine z_callVv (As := [.int (nI (mR_standsFor σ t)), .int (nI a)]) (rest := []) (q0 := 0) (ci := 4) X hml (r_push l K G A hD (p_mR_heap (p_mR_clashes (p_mR_setting (p_mR_thrown σ 0) k) 0) 0) (mR_standsFor σ t) a (show 0 < 170 by decide)) (zk_R_123 X.2.2.2.1 (z_rm (by omega) (by decide))) rfl rfl rfl hP hS rfl hl.1 rfl (Nat.le_of_ble_eq_true rfl) zd_R_apply_76 ⟨Nat.zero_le _, Nat.zero_le _⟩ (fun H locs hP hS => ?_)
  have hP : va_P K.1 zcl (mW K G (mStart σ t a k)) H := by rw [mStart, if_pos h0k]; exact hP
  exact q_R_apply l K G A hD X hr hml hlocks t a k ((mR_standsFor σ t * 8 + a) * 16 + k) (by omega) n (mStart σ t a k) hgo hn0 hc1 hkn2 H locs ls hP hS (lv_sub hl [0, 1, 2, 3, 4] rfl)

set_option maxHeartbeats 4000000 in
set_option maxRecDepth 100000 in
/-- apply: known -/
theorem r_apply_0 (l : Launch) (K : zK) (G : Nat → Nat) (A : Nat → Prop) (hD : ∀ σ, va_D A (mW K G σ)) (σ : mS) (t a k : Nat) (hB : mB σ) (ht : t < mR_targets σ) (ha : a < mR_aspects σ) (hk : k < 16) (n : Nat) (hgo : ∀ i, i < n → mGoOk (mIter (mStart σ t a k) i)) (hn0 : mR_heap (mIter (mStart σ t a k) n) = 0) (hc1 : mR_clashes (mIter (mStart σ t a k) n) ≤ 1) (hkn2 : ∀ q, mR_known (mIter (mStart σ t a k) n) q ≤ 2) (hknp : mR_known σ ((mR_standsFor σ t * 8 + a) * 16 + k) ≤ 2) (h0k : ¬ mR_known σ ((mR_standsFor σ t * 8 + a) * 16 + k) = 0) : zMet l K A zy_R_apply zws_R_apply 3 [.ref (G 0), .int (nI t), .int (nI a), .int (nI k)] (mW K G σ) (mW K G (mIter (mStart σ t a k) n)) (some (.int (mAns (mIter (mStart σ t a k) n) ((mR_standsFor σ t * 8 + a) * 16 + k)))) := by
  have hBo := hB.1
  have hBa := hB.2.1
  have hst := hB.2.2.1 t
  refine z_entry (by decide) (Nat.le_of_ble_eq_true rfl) ?_
  intro p e s m below meth c ls X hr hml hlocks hP hl
  have hS : va_S A s.heap s.heap [] := va_S.rf
  have hl : lv_has ls 5 [(0, .ref (G 0)), (1, .int (nI t)), (2, .int (nI a)), (3, .int (nI k))] := hl
  refine lv_aload_n X.1 X.2.1 zd_R_apply_0 rfl (lv_at hl 0 rfl) ?_
  refine lv_iconst (v := nI 0) X.1 X.2.1 zd_R_apply_1 (by decide) ?_
  refine s_mR_thrown X hD hP hS zd_R_apply_2 (fun H locs hP hS => ?_)
  have hP : va_P K.1 zcl (mW K G (p_mR_thrown σ 0)) H := hP
  refine lv_aload_n X.1 X.2.1 zd_R_apply_5 rfl (lv_at hl 0 rfl) ?_
  refine lv_iload_n X.1 X.2.1 zd_R_apply_6 rfl (lv_at hl 1 rfl) ?_
  refine z_callVi (As := [.int (nI t)]) (rest := []) (q0 := 0) (ci := 4) X hml (r_isTarget l K G A hD (p_mR_thrown σ 0) (nI t)) (zk_R_82 X.2.2.2.1 (z_rm (by omega) (by decide))) rfl rfl rfl hP hS rfl hl.1 rfl (Nat.le_of_ble_eq_true rfl) zd_R_apply_7 ⟨Nat.zero_le _, Nat.zero_le _⟩ (fun H locs hP hS => ?_)
  refine lv_if_eq (tgt := 28) X.1 X.2.1 zd_R_apply_10 (by decide) (fun h9 => absurd h9 (by show ¬ nI (cHas (mR_targets σ) _) = 0; rw [cHas_y ht (by omega)]; decide)) (fun _ => ?_)
  refine lv_aload_n X.1 X.2.1 zd_R_apply_13 rfl (lv_at hl 0 rfl) ?_
  refine lv_iload_n X.1 X.2.1 zd_R_apply_14 rfl (lv_at hl 2 rfl) ?_
  refine z_callVi (As := [.int (nI a)]) (rest := []) (q0 := 0) (ci := 4) X hml (r_isAspect l K G A hD (p_mR_thrown σ 0) (nI a)) (zk_R_107 X.2.2.2.1 (z_rm (by omega) (by decide))) rfl rfl rfl hP hS rfl hl.1 rfl (Nat.le_of_ble_eq_true rfl) zd_R_apply_15 ⟨Nat.zero_le _, Nat.zero_le _⟩ (fun H locs hP hS => ?_)
  refine lv_if_eq (tgt := 28) X.1 X.2.1 zd_R_apply_18 (by decide) (fun h9 => absurd h9 (by show ¬ nI (cHas (mR_aspects σ) _) = 0; rw [cHas_y ha (by omega)]; decide)) (fun _ => ?_)
  refine lv_iload_n X.1 X.2.1 zd_R_apply_21 rfl (lv_at hl 3 rfl) ?_
  refine z_callSi (As := [.int (nI k)]) (rest := []) X hml (r_isSetting l K G A hD (p_mR_thrown σ 0) (nI k)) (zk_R_153 X.2.2.2.1 (z_rm (by omega) (by decide))) hP hS rfl hl.1 rfl (Nat.le_of_ble_eq_true rfl) zd_R_apply_22 ⟨Nat.zero_le _, Nat.zero_le _⟩ (fun H locs hP hS => ?_)
  refine lv_if_ne (tgt := 30) X.1 X.2.1 zd_R_apply_25 (by decide) (fun _ => ?_) (fun h9 => absurd h9 (by show ¬ nI (cHas (16) _) = 0; rw [cHas_y hk (by omega)]; decide))
  refine lv_aload_n X.1 X.2.1 zd_R_apply_30 rfl (lv_at hl 0 rfl) ?_
  refine g_mR_standsFor X hP zd_R_apply_31 ?_
  refine lv_iload_n X.1 X.2.1 zd_R_apply_34 rfl (lv_at hl 1 rfl) ?_
  refine l_mR_standsFor X hP (by omega) zd_R_apply_35 ?_
  refine z_top (y := (nI (mR_standsFor σ t))) rfl ?_
  refine lv_iload_n X.1 X.2.1 zd_R_apply_36 rfl (lv_at hl 2 rfl) ?_
  refine lv_iload_n X.1 X.2.1 zd_R_apply_37 rfl (lv_at hl 3 rfl) ?_
  refine z_callSi (As := [.int (nI (mR_standsFor σ t)), .int (nI a), .int (nI k)]) (rest := []) X hml (r_placeOf l K G A hD (p_mR_thrown σ 0) (mR_standsFor σ t) a k) (zk_R_103 X.2.2.2.1 (z_rm (by omega) (by decide))) hP hS rfl hl.1 rfl (Nat.le_of_ble_eq_true rfl) zd_R_apply_38 ⟨Nat.zero_le _, Nat.zero_le _⟩ (fun H locs hP hS => ?_)
  refine lv_istore (lv' := [(4, .int (nI (((mR_standsFor σ t) * 8 + a) * 16 + k))), (0, .ref (G 0)), (1, .int (nI t)), (2, .int (nI a)), (3, .int (nI k))]) X.1 X.2.1 zd_R_apply_41 hl (by decide) rfl (fun ls hl => ?_)
  refine lv_aload_n X.1 X.2.1 zd_R_apply_43 rfl (lv_at hl 1 rfl) ?_
  refine lv_iload_n X.1 X.2.1 zd_R_apply_44 rfl (lv_at hl 4 rfl) ?_
  refine s_mR_setting X hD hP hS zd_R_apply_45 (fun H locs hP hS => ?_)
  have hP : va_P K.1 zcl (mW K G (p_mR_setting (p_mR_thrown σ 0) k)) H := hP
  refine lv_aload_n X.1 X.2.1 zd_R_apply_48 rfl (lv_at hl 1 rfl) ?_
  refine lv_iconst (v := nI 0) X.1 X.2.1 zd_R_apply_49 (by decide) ?_
  refine s_mR_clashes X hD hP hS (by omega) zd_R_apply_50 (fun H locs hP hS => ?_)
  have hP : va_P K.1 zcl (mW K G (p_mR_clashes (p_mR_setting (p_mR_thrown σ 0) k) 0)) H := hP
  refine lv_aload_n X.1 X.2.1 zd_R_apply_53 rfl (lv_at hl 1 rfl) ?_
  refine lv_iconst (v := nI 0) X.1 X.2.1 zd_R_apply_54 (by decide) ?_
  refine s_mR_heap X hD hP hS zd_R_apply_55 (fun H locs hP hS => ?_)
  have hP : va_P K.1 zcl (mW K G (p_mR_heap (p_mR_clashes (p_mR_setting (p_mR_thrown σ 0) k) 0) 0)) H := hP
  refine lv_aload_n X.1 X.2.1 zd_R_apply_58 rfl (lv_at hl 1 rfl) ?_
  refine g_mR_known X hP zd_R_apply_59 ?_
  refine lv_iload X.1 X.2.1 zd_R_apply_62 (lv_at hl 0 rfl) ?_
  refine l_mR_known X hP (by omega) zd_R_apply_64 ?_
  refine z_top (y := (nI (mR_known σ (((mR_standsFor σ t) * 8 + a) * 16 + k)))) rfl ?_
  refine lv_if_ne (tgt := 79) X.1 X.2.1 zd_R_apply_65 (by decide) (fun _ => ?_) (fun h9 => absurd h9 (by show ¬ nI (mR_known σ _) = 0; rw [z_eq0 (by omega)]; exact h0k))
  have hP : va_P K.1 zcl (mW K G (mStart σ t a k)) H := by rw [mStart, if_neg h0k]; exact hP
  exact q_R_apply l K G A hD X hr hml hlocks t a k ((mR_standsFor σ t * 8 + a) * 16 + k) (by omega) n (mStart σ t a k) hgo hn0 hc1 hkn2 H locs ls hP hS (lv_sub hl [0, 1, 2, 3, 4] rfl)

set_option maxHeartbeats 4000000 in
set_option maxRecDepth 100000 in
/-- clash -/
theorem r_clash_1 (l : Launch) (K : zK) (G : Nat → Nat) (A : Nat → Prop) (hD : ∀ σ, va_D A (mW K G σ)) (σ : mS) (n : Nat) (hn : n < 5) : zMet l K A zy_R_clash zws_R_clash 1 [.ref (G 0), .int (nI n)] (mW K G σ) (mW K G (p_mR_thrown σ 0)) (some (.int (mR_clashTold σ n))) := by
  refine z_entry (by decide) (Nat.le_of_ble_eq_true rfl) ?_
  intro p e s m below meth c ls X hr hml hlocks hP hl
  have hS : va_S A s.heap s.heap [] := va_S.rf
  have hl : lv_has ls 2 [(0, .ref (G 0)), (1, .int (nI n))] := hl
  refine lv_aload_n X.1 X.2.1 zd_R_clash_0 rfl (lv_at hl 0 rfl) ?_
  refine lv_iconst (v := nI 0) X.1 X.2.1 zd_R_clash_1 (by decide) ?_
  refine s_mR_thrown X hD hP hS zd_R_clash_2 (fun H locs hP hS => ?_)
  have hP : va_P K.1 zcl (mW K G (p_mR_thrown σ 0)) H := hP
  refine lv_iload_n X.1 X.2.1 zd_R_clash_5 rfl (lv_at hl 1 rfl) ?_
  refine lv_if_lt (tgt := 23) X.1 X.2.1 zd_R_clash_6 (by decide) (fun h9 => absurd h9 (nI_pos (by omega))) (fun _ => ?_)
  refine lv_iload_n X.1 X.2.1 zd_R_clash_9 rfl (lv_at hl 1 rfl) ?_
  refine lv_iconst (v := nI 5) X.1 X.2.1 zd_R_clash_10 (by decide) ?_
  refine lv_icmp_ge (tgt := 23) X.1 X.2.1 zd_R_clash_11 (by decide) (fun h9 => absurd h9 (by rw [nI_leI (by omega) (by omega)]; omega)) (fun _ => ?_)
  refine lv_aload_n X.1 X.2.1 zd_R_clash_14 rfl (lv_at hl 0 rfl) ?_
  refine g_mR_clashTold X hP zd_R_clash_15 ?_
  refine lv_iload_n X.1 X.2.1 zd_R_clash_18 rfl (lv_at hl 1 rfl) ?_
  refine l_mR_clashTold X hP (by omega) zd_R_clash_19 ?_
  refine z_top (y := (mR_clashTold σ n)) rfl ?_
  refine lv_goto (tgt := 24) X.1 X.2.1 zd_R_clash_20 (by decide) ?_
  exact z_iret X.1 X.2.1 hr hlocks rfl rfl hP hS zd_R_clash_24

set_option maxHeartbeats 4000000 in
set_option maxRecDepth 100000 in
/-- clash: none such -/
theorem r_clash_n (l : Launch) (K : zK) (G : Nat → Nat) (A : Nat → Prop) (hD : ∀ σ, va_D A (mW K G σ)) (σ : mS) (x : Int32) (h : ¬ ∃ n, n < 5 ∧ x = nI n) : zMet l K A zy_R_clash zws_R_clash 1 [.ref (G 0), .int x] (mW K G σ) (mW K G (p_mR_thrown σ 0)) (some (.int (-1))) := by
  refine z_entry (by decide) (Nat.le_of_ble_eq_true rfl) ?_
  intro p e s m below meth c ls X hr hml hlocks hP hl
  have hS : va_S A s.heap s.heap [] := va_S.rf
  have hl : lv_has ls 2 [(0, .ref (G 0)), (1, .int x)] := hl
  refine lv_aload_n X.1 X.2.1 zd_R_clash_0 rfl (lv_at hl 0 rfl) ?_
  refine lv_iconst (v := nI 0) X.1 X.2.1 zd_R_clash_1 (by decide) ?_
  refine s_mR_thrown X hD hP hS zd_R_clash_2 (fun H locs hP hS => ?_)
  have hP : va_P K.1 zcl (mW K G (p_mR_thrown σ 0)) H := hP
  refine lv_iload_n X.1 X.2.1 zd_R_clash_5 rfl (lv_at hl 1 rfl) ?_
  refine lv_if_lt (tgt := 23) X.1 X.2.1 zd_R_clash_6 (by decide) (fun c1 => ?_) (fun c1 => ?_)
  · refine lv_iconst (v := -1) X.1 X.2.1 zd_R_clash_23 (by decide) ?_
    exact z_iret X.1 X.2.1 hr hlocks rfl rfl hP hS zd_R_clash_24
  · refine lv_iload_n X.1 X.2.1 zd_R_clash_9 rfl (lv_at hl 1 rfl) ?_
    refine lv_iconst (v := nI 5) X.1 X.2.1 zd_R_clash_10 (by decide) ?_
    refine lv_icmp_ge (tgt := 23) X.1 X.2.1 zd_R_clash_11 (by decide) (fun c2 => ?_) (fun c2 => ?_)
    · refine lv_iconst (v := -1) X.1 X.2.1 zd_R_clash_23 (by decide) ?_
      exact z_iret X.1 X.2.1 hr hlocks rfl rfl hP hS zd_R_clash_24
    · exact absurd (z_rng c1 c2 (by decide)) h

set_option maxHeartbeats 4000000 in
set_option maxRecDepth 100000 in
/-- state: none such -/
theorem r_state_n (l : Launch) (K : zK) (G : Nat → Nat) (A : Nat → Prop) (hD : ∀ σ, va_D A (mW K G σ)) (σ : mS) (x y z : Int32) (hB : mB σ) (h : ¬ ∃ t a k, t < mR_targets σ ∧ x = nI t ∧ a < mR_aspects σ ∧ y = nI a ∧ k < 16 ∧ z = nI k) : zMet l K A zy_R_state zws_R_state 1 [.ref (G 0), .int x, .int y, .int z] (mW K G σ) (mW K G (p_mR_thrown σ 0)) (some (.int (-1))) := by
  have hBo := hB.1
  have hBa := hB.2.1
  refine z_entry (by decide) (Nat.le_of_ble_eq_true rfl) ?_
  intro p e s m below meth c ls X hr hml hlocks hP hl
  have hS : va_S A s.heap s.heap [] := va_S.rf
  have hl : lv_has ls 4 [(0, .ref (G 0)), (1, .int x), (2, .int y), (3, .int z)] := hl
  refine lv_aload_n X.1 X.2.1 zd_R_state_0 rfl (lv_at hl 0 rfl) ?_
  refine lv_iconst (v := nI 0) X.1 X.2.1 zd_R_state_1 (by decide) ?_
  refine s_mR_thrown X hD hP hS zd_R_state_2 (fun H locs hP hS => ?_)
  have hP : va_P K.1 zcl (mW K G (p_mR_thrown σ 0)) H := hP
  refine lv_aload_n X.1 X.2.1 zd_R_state_5 rfl (lv_at hl 0 rfl) ?_
  refine lv_iload_n X.1 X.2.1 zd_R_state_6 rfl (lv_at hl 1 rfl) ?_
  refine z_callVi (As := [.int x]) (rest := []) (q0 := 0) (ci := 4) X hml (r_isTarget l K G A hD (p_mR_thrown σ 0) x) (zk_R_82 X.2.2.2.1 (z_rm (by omega) (by decide))) rfl rfl rfl hP hS rfl hl.1 rfl (Nat.le_of_ble_eq_true rfl) zd_R_state_7 ⟨Nat.zero_le _, Nat.zero_le _⟩ (fun H locs hP hS => ?_)
  refine lv_if_eq (tgt := 28) X.1 X.2.1 zd_R_state_10 (by decide) (fun c1 => ?_) (fun c1 => ?_)
  · rw [z_eq0 (cHas_lt _ _)] at c1
    refine lv_iconst (v := -1) X.1 X.2.1 zd_R_state_28 (by decide) ?_
    exact z_iret X.1 X.2.1 hr hlocks rfl rfl hP hS zd_R_state_29
  · rw [z_eq0 (cHas_lt _ _)] at c1
    obtain ⟨t, ht, rfl⟩ := cHas_ex (o := mR_targets σ) (by omega) c1
    refine lv_aload_n X.1 X.2.1 zd_R_state_13 rfl (lv_at hl 0 rfl) ?_
    refine lv_iload_n X.1 X.2.1 zd_R_state_14 rfl (lv_at hl 2 rfl) ?_
    refine z_callVi (As := [.int y]) (rest := []) (q0 := 0) (ci := 4) X hml (r_isAspect l K G A hD (p_mR_thrown σ 0) y) (zk_R_107 X.2.2.2.1 (z_rm (by omega) (by decide))) rfl rfl rfl hP hS rfl hl.1 rfl (Nat.le_of_ble_eq_true rfl) zd_R_state_15 ⟨Nat.zero_le _, Nat.zero_le _⟩ (fun H locs hP hS => ?_)
    refine lv_if_eq (tgt := 28) X.1 X.2.1 zd_R_state_18 (by decide) (fun c2 => ?_) (fun c2 => ?_)
    · rw [z_eq0 (cHas_lt _ _)] at c2
      refine lv_iconst (v := -1) X.1 X.2.1 zd_R_state_28 (by decide) ?_
      exact z_iret X.1 X.2.1 hr hlocks rfl rfl hP hS zd_R_state_29
    · rw [z_eq0 (cHas_lt _ _)] at c2
      obtain ⟨a, ha, rfl⟩ := cHas_ex (o := mR_aspects σ) (by omega) c2
      refine lv_iload_n X.1 X.2.1 zd_R_state_21 rfl (lv_at hl 3 rfl) ?_
      refine z_callSi (As := [.int z]) (rest := []) X hml (r_isSetting l K G A hD (p_mR_thrown σ 0) z) (zk_R_153 X.2.2.2.1 (z_rm (by omega) (by decide))) hP hS rfl hl.1 rfl (Nat.le_of_ble_eq_true rfl) zd_R_state_22 ⟨Nat.zero_le _, Nat.zero_le _⟩ (fun H locs hP hS => ?_)
      refine lv_if_ne (tgt := 30) X.1 X.2.1 zd_R_state_25 (by decide) (fun c3 => ?_) (fun c3 => ?_)
      · rw [z_eq0 (cHas_lt _ _)] at c3
        obtain ⟨k, hk, rfl⟩ := cHas_ex (o := 16) (by omega) c3
        exact absurd ⟨t, a, k, ht, rfl, ha, rfl, hk, rfl⟩ h
      · rw [z_eq0 (cHas_lt _ _)] at c3
        refine lv_iconst (v := -1) X.1 X.2.1 zd_R_state_28 (by decide) ?_
        exact z_iret X.1 X.2.1 hr hlocks rfl rfl hP hS zd_R_state_29

set_option maxHeartbeats 4000000 in
set_option maxRecDepth 100000 in
/-- state -/
theorem r_state_1 (l : Launch) (K : zK) (G : Nat → Nat) (A : Nat → Prop) (hD : ∀ σ, va_D A (mW K G σ)) (σ : mS) (t a k : Nat) (hB : mB σ) (ht : t < mR_targets σ) (ha : a < mR_aspects σ) (hk : k < 16) : zMet l K A zy_R_state zws_R_state 1 [.ref (G 0), .int (nI t), .int (nI a), .int (nI k)] (mW K G σ) (mW K G (p_mR_thrown σ 0)) (some (.int (nI (mR_known σ ((mR_standsFor σ t * 8 + a) * 16 + k)) - nI 1))) := by
  have hBo := hB.1
  have hBa := hB.2.1
  have hst := hB.2.2.1 t
  refine z_entry (by decide) (Nat.le_of_ble_eq_true rfl) ?_
  intro p e s m below meth c ls X hr hml hlocks hP hl
  have hS : va_S A s.heap s.heap [] := va_S.rf
  have hl : lv_has ls 4 [(0, .ref (G 0)), (1, .int (nI t)), (2, .int (nI a)), (3, .int (nI k))] := hl
  refine lv_aload_n X.1 X.2.1 zd_R_state_0 rfl (lv_at hl 0 rfl) ?_
  refine lv_iconst (v := nI 0) X.1 X.2.1 zd_R_state_1 (by decide) ?_
  refine s_mR_thrown X hD hP hS zd_R_state_2 (fun H locs hP hS => ?_)
  have hP : va_P K.1 zcl (mW K G (p_mR_thrown σ 0)) H := hP
  refine lv_aload_n X.1 X.2.1 zd_R_state_5 rfl (lv_at hl 0 rfl) ?_
  refine lv_iload_n X.1 X.2.1 zd_R_state_6 rfl (lv_at hl 1 rfl) ?_
  refine z_callVi (As := [.int (nI t)]) (rest := []) (q0 := 0) (ci := 4) X hml (r_isTarget l K G A hD (p_mR_thrown σ 0) (nI t)) (zk_R_82 X.2.2.2.1 (z_rm (by omega) (by decide))) rfl rfl rfl hP hS rfl hl.1 rfl (Nat.le_of_ble_eq_true rfl) zd_R_state_7 ⟨Nat.zero_le _, Nat.zero_le _⟩ (fun H locs hP hS => ?_)
  refine lv_if_eq (tgt := 28) X.1 X.2.1 zd_R_state_10 (by decide) (fun h9 => absurd h9 (by show ¬ nI (cHas (mR_targets σ) _) = 0; rw [cHas_y ht (by omega)]; decide)) (fun _ => ?_)
  refine lv_aload_n X.1 X.2.1 zd_R_state_13 rfl (lv_at hl 0 rfl) ?_
  refine lv_iload_n X.1 X.2.1 zd_R_state_14 rfl (lv_at hl 2 rfl) ?_
  refine z_callVi (As := [.int (nI a)]) (rest := []) (q0 := 0) (ci := 4) X hml (r_isAspect l K G A hD (p_mR_thrown σ 0) (nI a)) (zk_R_107 X.2.2.2.1 (z_rm (by omega) (by decide))) rfl rfl rfl hP hS rfl hl.1 rfl (Nat.le_of_ble_eq_true rfl) zd_R_state_15 ⟨Nat.zero_le _, Nat.zero_le _⟩ (fun H locs hP hS => ?_)
  refine lv_if_eq (tgt := 28) X.1 X.2.1 zd_R_state_18 (by decide) (fun h9 => absurd h9 (by show ¬ nI (cHas (mR_aspects σ) _) = 0; rw [cHas_y ha (by omega)]; decide)) (fun _ => ?_)
  refine lv_iload_n X.1 X.2.1 zd_R_state_21 rfl (lv_at hl 3 rfl) ?_
  refine z_callSi (As := [.int (nI k)]) (rest := []) X hml (r_isSetting l K G A hD (p_mR_thrown σ 0) (nI k)) (zk_R_153 X.2.2.2.1 (z_rm (by omega) (by decide))) hP hS rfl hl.1 rfl (Nat.le_of_ble_eq_true rfl) zd_R_state_22 ⟨Nat.zero_le _, Nat.zero_le _⟩ (fun H locs hP hS => ?_)
  refine lv_if_ne (tgt := 30) X.1 X.2.1 zd_R_state_25 (by decide) (fun _ => ?_) (fun h9 => absurd h9 (by show ¬ nI (cHas (16) _) = 0; rw [cHas_y hk (by omega)]; decide))
  refine lv_aload_n X.1 X.2.1 zd_R_state_30 rfl (lv_at hl 0 rfl) ?_
  refine g_mR_known X hP zd_R_state_31 ?_
  refine lv_aload_n X.1 X.2.1 zd_R_state_34 rfl (lv_at hl 0 rfl) ?_
  refine g_mR_standsFor X hP zd_R_state_35 ?_
  refine lv_iload_n X.1 X.2.1 zd_R_state_38 rfl (lv_at hl 1 rfl) ?_
  refine l_mR_standsFor X hP (by omega) zd_R_state_39 ?_
  refine z_top (y := (nI (mR_standsFor σ t))) rfl ?_
  refine lv_iload_n X.1 X.2.1 zd_R_state_40 rfl (lv_at hl 2 rfl) ?_
  refine lv_iload_n X.1 X.2.1 zd_R_state_41 rfl (lv_at hl 3 rfl) ?_
  refine z_callSi (As := [.int (nI (mR_standsFor σ t)), .int (nI a), .int (nI k)]) (rest := [.ref (G 13)]) X hml (r_placeOf l K G A hD (p_mR_thrown σ 0) (mR_standsFor σ t) a k) (zk_R_103 X.2.2.2.1 (z_rm (by omega) (by decide))) hP hS rfl hl.1 rfl (Nat.le_of_ble_eq_true rfl) zd_R_state_42 ⟨Nat.zero_le _, Nat.zero_le _⟩ (fun H locs hP hS => ?_)
  refine l_mR_known X hP (by omega) zd_R_state_45 ?_
  refine z_top (y := (nI (mR_known σ (((mR_standsFor σ t) * 8 + a) * 16 + k)))) rfl ?_
  refine lv_iconst (v := nI 1) X.1 X.2.1 zd_R_state_46 (by decide) ?_
  refine lv_isub X.1 X.2.1 zd_R_state_47 ?_
  exact z_iret X.1 X.2.1 hr hlocks rfl rfl hP hS zd_R_state_48

set_option maxHeartbeats 4000000 in
set_option maxRecDepth 100000 in
/-- result: none such -/
theorem r_result_n (l : Launch) (K : zK) (G : Nat → Nat) (A : Nat → Prop) (hD : ∀ σ, va_D A (mW K G σ)) (σ : mS) (x y z : Int32) (hB : mB σ) (h : ¬ ∃ t a k, t < mR_targets σ ∧ x = nI t ∧ a < mR_aspects σ ∧ y = nI a ∧ k < 16 ∧ z = nI k) : zMet l K A zy_R_result zws_R_result 1 [.ref (G 0), .int x, .int y, .int z] (mW K G σ) (mW K G (p_mR_thrown σ 1)) (some (.long 0)) := by
  have hBo := hB.1
  have hBa := hB.2.1
  refine z_entry (by decide) (Nat.le_of_ble_eq_true rfl) ?_
  intro p e s m below meth c ls X hr hml hlocks hP hl
  have hS : va_S A s.heap s.heap [] := va_S.rf
  have hl : lv_has ls 4 [(0, .ref (G 0)), (1, .int x), (2, .int y), (3, .int z)] := hl
  refine lv_aload_n X.1 X.2.1 zd_R_result_0 rfl (lv_at hl 0 rfl) ?_
  refine lv_aload_n X.1 X.2.1 zd_R_result_1 rfl (lv_at hl 0 rfl) ?_
  refine lv_iload_n X.1 X.2.1 zd_R_result_2 rfl (lv_at hl 1 rfl) ?_
  refine z_callVi (As := [.int x]) (rest := [.ref (G 0)]) (q0 := 0) (ci := 4) X hml (r_isTarget l K G A hD σ x) (zk_R_82 X.2.2.2.1 (z_rm (by omega) (by decide))) rfl rfl rfl hP hS rfl hl.1 rfl (Nat.le_of_ble_eq_true rfl) zd_R_result_3 ⟨Nat.zero_le _, Nat.zero_le _⟩ (fun H locs hP hS => ?_)
  refine lv_if_eq (tgt := 24) X.1 X.2.1 zd_R_result_6 (by decide) (fun c1 => ?_) (fun c1 => ?_)
  · rw [z_eq0 (cHas_lt _ _)] at c1
    refine lv_iconst (v := nI 1) X.1 X.2.1 zd_R_result_24 (by decide) ?_
    refine lv_goto (tgt := 53) X.1 X.2.1 zd_R_result_25 (by decide) ?_
    refine s_mR_thrown X hD hP hS zd_R_result_53 (fun H locs hP hS => ?_)
    have hP : va_P K.1 zcl (mW K G (p_mR_thrown σ 1)) H := hP
    refine lv_aload_n X.1 X.2.1 zd_R_result_56 rfl (lv_at hl 0 rfl) ?_
    refine g_mR_thrown X hP zd_R_result_57 ?_
    refine z_top (y := (nI 1)) rfl ?_
    refine lv_if_le (tgt := 67) X.1 X.2.1 zd_R_result_60 (by decide) (fun h9 => absurd h9 (by decide)) (fun _ => ?_)
    refine lv_lconst (v := 0) X.1 X.2.1 zd_R_result_63 (by decide) ?_
    refine lv_goto (tgt := 83) X.1 X.2.1 zd_R_result_64 (by decide) ?_
    exact z_lret X.1 X.2.1 hr hlocks rfl rfl hP hS zd_R_result_83
  · rw [z_eq0 (cHas_lt _ _)] at c1
    obtain ⟨t, ht, rfl⟩ := cHas_ex (o := mR_targets σ) (by omega) c1
    refine lv_aload_n X.1 X.2.1 zd_R_result_9 rfl (lv_at hl 0 rfl) ?_
    refine lv_iload_n X.1 X.2.1 zd_R_result_10 rfl (lv_at hl 2 rfl) ?_
    refine z_callVi (As := [.int y]) (rest := [.ref (G 0)]) (q0 := 0) (ci := 4) X hml (r_isAspect l K G A hD σ y) (zk_R_107 X.2.2.2.1 (z_rm (by omega) (by decide))) rfl rfl rfl hP hS rfl hl.1 rfl (Nat.le_of_ble_eq_true rfl) zd_R_result_11 ⟨Nat.zero_le _, Nat.zero_le _⟩ (fun H locs hP hS => ?_)
    refine lv_if_eq (tgt := 24) X.1 X.2.1 zd_R_result_14 (by decide) (fun c2 => ?_) (fun c2 => ?_)
    · rw [z_eq0 (cHas_lt _ _)] at c2
      refine lv_iconst (v := nI 1) X.1 X.2.1 zd_R_result_24 (by decide) ?_
      refine lv_goto (tgt := 53) X.1 X.2.1 zd_R_result_25 (by decide) ?_
      refine s_mR_thrown X hD hP hS zd_R_result_53 (fun H locs hP hS => ?_)
      have hP : va_P K.1 zcl (mW K G (p_mR_thrown σ 1)) H := hP
      refine lv_aload_n X.1 X.2.1 zd_R_result_56 rfl (lv_at hl 0 rfl) ?_
      refine g_mR_thrown X hP zd_R_result_57 ?_
      refine z_top (y := (nI 1)) rfl ?_
      refine lv_if_le (tgt := 67) X.1 X.2.1 zd_R_result_60 (by decide) (fun h9 => absurd h9 (by decide)) (fun _ => ?_)
      refine lv_lconst (v := 0) X.1 X.2.1 zd_R_result_63 (by decide) ?_
      refine lv_goto (tgt := 83) X.1 X.2.1 zd_R_result_64 (by decide) ?_
      exact z_lret X.1 X.2.1 hr hlocks rfl rfl hP hS zd_R_result_83
    · rw [z_eq0 (cHas_lt _ _)] at c2
      obtain ⟨a, ha, rfl⟩ := cHas_ex (o := mR_aspects σ) (by omega) c2
      refine lv_iload_n X.1 X.2.1 zd_R_result_17 rfl (lv_at hl 3 rfl) ?_
      refine z_callSi (As := [.int z]) (rest := [.ref (G 0)]) X hml (r_isSetting l K G A hD σ z) (zk_R_153 X.2.2.2.1 (z_rm (by omega) (by decide))) hP hS rfl hl.1 rfl (Nat.le_of_ble_eq_true rfl) zd_R_result_18 ⟨Nat.zero_le _, Nat.zero_le _⟩ (fun H locs hP hS => ?_)
      refine lv_if_ne (tgt := 28) X.1 X.2.1 zd_R_result_21 (by decide) (fun c3 => ?_) (fun c3 => ?_)
      · rw [z_eq0 (cHas_lt _ _)] at c3
        obtain ⟨k, hk, rfl⟩ := cHas_ex (o := 16) (by omega) c3
        exact absurd ⟨t, a, k, ht, rfl, ha, rfl, hk, rfl⟩ h
      · rw [z_eq0 (cHas_lt _ _)] at c3
        refine lv_iconst (v := nI 1) X.1 X.2.1 zd_R_result_24 (by decide) ?_
        refine lv_goto (tgt := 53) X.1 X.2.1 zd_R_result_25 (by decide) ?_
        refine s_mR_thrown X hD hP hS zd_R_result_53 (fun H locs hP hS => ?_)
        have hP : va_P K.1 zcl (mW K G (p_mR_thrown σ 1)) H := hP
        refine lv_aload_n X.1 X.2.1 zd_R_result_56 rfl (lv_at hl 0 rfl) ?_
        refine g_mR_thrown X hP zd_R_result_57 ?_
        refine z_top (y := (nI 1)) rfl ?_
        refine lv_if_le (tgt := 67) X.1 X.2.1 zd_R_result_60 (by decide) (fun h9 => absurd h9 (by decide)) (fun _ => ?_)
        refine lv_lconst (v := 0) X.1 X.2.1 zd_R_result_63 (by decide) ?_
        refine lv_goto (tgt := 83) X.1 X.2.1 zd_R_result_64 (by decide) ?_
        exact z_lret X.1 X.2.1 hr hlocks rfl rfl hP hS zd_R_result_83

set_option maxHeartbeats 4000000 in
set_option maxRecDepth 100000 in
/-- result: not done -/
theorem r_result_2 (l : Launch) (K : zK) (G : Nat → Nat) (A : Nat → Prop) (hD : ∀ σ, va_D A (mW K G σ)) (σ : mS) (t a k : Nat) (hB : mB σ) (ht : t < mR_targets σ) (ha : a < mR_aspects σ) (hk : k < 16) (hknp : mR_known σ ((mR_standsFor σ t * 8 + a) * 16 + k) ≤ 2) (h2 : ¬ mR_known σ ((mR_standsFor σ t * 8 + a) * 16 + k) = 2) : zMet l K A zy_R_result zws_R_result 1 [.ref (G 0), .int (nI t), .int (nI a), .int (nI k)] (mW K G σ) (mW K G (p_mR_thrown σ 2)) (some (.long 0)) := by
  have hBo := hB.1
  have hBa := hB.2.1
  have hst := hB.2.2.1 t
  refine z_entry (by decide) (Nat.le_of_ble_eq_true rfl) ?_
  intro p e s m below meth c ls X hr hml hlocks hP hl
  have hS : va_S A s.heap s.heap [] := va_S.rf
  have hl : lv_has ls 4 [(0, .ref (G 0)), (1, .int (nI t)), (2, .int (nI a)), (3, .int (nI k))] := hl
  refine lv_aload_n X.1 X.2.1 zd_R_result_0 rfl (lv_at hl 0 rfl) ?_
  refine lv_aload_n X.1 X.2.1 zd_R_result_1 rfl (lv_at hl 0 rfl) ?_
  refine lv_iload_n X.1 X.2.1 zd_R_result_2 rfl (lv_at hl 1 rfl) ?_
  refine z_callVi (As := [.int (nI t)]) (rest := [.ref (G 0)]) (q0 := 0) (ci := 4) X hml (r_isTarget l K G A hD σ (nI t)) (zk_R_82 X.2.2.2.1 (z_rm (by omega) (by decide))) rfl rfl rfl hP hS rfl hl.1 rfl (Nat.le_of_ble_eq_true rfl) zd_R_result_3 ⟨Nat.zero_le _, Nat.zero_le _⟩ (fun H locs hP hS => ?_)
  refine lv_if_eq (tgt := 24) X.1 X.2.1 zd_R_result_6 (by decide) (fun h9 => absurd h9 (by show ¬ nI (cHas (mR_targets σ) _) = 0; rw [cHas_y ht (by omega)]; decide)) (fun _ => ?_)
  refine lv_aload_n X.1 X.2.1 zd_R_result_9 rfl (lv_at hl 0 rfl) ?_
  refine lv_iload_n X.1 X.2.1 zd_R_result_10 rfl (lv_at hl 2 rfl) ?_
  refine z_callVi (As := [.int (nI a)]) (rest := [.ref (G 0)]) (q0 := 0) (ci := 4) X hml (r_isAspect l K G A hD σ (nI a)) (zk_R_107 X.2.2.2.1 (z_rm (by omega) (by decide))) rfl rfl rfl hP hS rfl hl.1 rfl (Nat.le_of_ble_eq_true rfl) zd_R_result_11 ⟨Nat.zero_le _, Nat.zero_le _⟩ (fun H locs hP hS => ?_)
  refine lv_if_eq (tgt := 24) X.1 X.2.1 zd_R_result_14 (by decide) (fun h9 => absurd h9 (by show ¬ nI (cHas (mR_aspects σ) _) = 0; rw [cHas_y ha (by omega)]; decide)) (fun _ => ?_)
  refine lv_iload_n X.1 X.2.1 zd_R_result_17 rfl (lv_at hl 3 rfl) ?_
  refine z_callSi (As := [.int (nI k)]) (rest := [.ref (G 0)]) X hml (r_isSetting l K G A hD σ (nI k)) (zk_R_153 X.2.2.2.1 (z_rm (by omega) (by decide))) hP hS rfl hl.1 rfl (Nat.le_of_ble_eq_true rfl) zd_R_result_18 ⟨Nat.zero_le _, Nat.zero_le _⟩ (fun H locs hP hS => ?_)
  refine lv_if_ne (tgt := 28) X.1 X.2.1 zd_R_result_21 (by decide) (fun _ => ?_) (fun h9 => absurd h9 (by show ¬ nI (cHas (16) _) = 0; rw [cHas_y hk (by omega)]; decide))
  refine lv_aload_n X.1 X.2.1 zd_R_result_28 rfl (lv_at hl 0 rfl) ?_
  refine g_mR_known X hP zd_R_result_29 ?_
  refine lv_aload_n X.1 X.2.1 zd_R_result_32 rfl (lv_at hl 0 rfl) ?_
  refine g_mR_standsFor X hP zd_R_result_33 ?_
  refine lv_iload_n X.1 X.2.1 zd_R_result_36 rfl (lv_at hl 1 rfl) ?_
  refine l_mR_standsFor X hP (by omega) zd_R_result_37 ?_
  refine lv_iload_n X.1 X.2.1 zd_R_result_38 rfl (lv_at hl 2 rfl) ?_
  refine lv_iload_n X.1 X.2.1 zd_R_result_39 rfl (lv_at hl 3 rfl) ?_
  refine z_callSi (As := [.int (nI (mR_standsFor σ t)), .int (nI a), .int (nI k)]) (rest := [.ref (G 13), .ref (G 0)]) X hml (r_placeOf l K G A hD σ (mR_standsFor σ t) a k) (zk_R_103 X.2.2.2.1 (z_rm (by omega) (by decide))) hP hS rfl hl.1 rfl (Nat.le_of_ble_eq_true rfl) zd_R_result_40 ⟨Nat.zero_le _, Nat.zero_le _⟩ (fun H locs hP hS => ?_)
  refine l_mR_known X hP (by omega) zd_R_result_43 ?_
  refine lv_iconst (v := nI 2) X.1 X.2.1 zd_R_result_44 (by decide) ?_
  refine lv_icmp_eq (tgt := 52) X.1 X.2.1 zd_R_result_45 (by decide) (fun h9 => absurd h9 (by rw [nI_eq (by omega) (by omega)]; exact h2)) (fun _ => ?_)
  refine lv_iconst (v := nI 2) X.1 X.2.1 zd_R_result_48 (by decide) ?_
  refine lv_goto (tgt := 53) X.1 X.2.1 zd_R_result_49 (by decide) ?_
  refine s_mR_thrown X hD hP hS zd_R_result_53 (fun H locs hP hS => ?_)
  have hP : va_P K.1 zcl (mW K G (p_mR_thrown σ 2)) H := hP
  refine lv_aload_n X.1 X.2.1 zd_R_result_56 rfl (lv_at hl 0 rfl) ?_
  refine g_mR_thrown X hP zd_R_result_57 ?_
  refine z_top (y := (nI 2)) rfl ?_
  refine lv_if_le (tgt := 67) X.1 X.2.1 zd_R_result_60 (by decide) (fun h9 => absurd h9 (by decide)) (fun _ => ?_)
  refine lv_lconst (v := 0) X.1 X.2.1 zd_R_result_63 (by decide) ?_
  refine lv_goto (tgt := 83) X.1 X.2.1 zd_R_result_64 (by decide) ?_
  exact z_lret X.1 X.2.1 hr hlocks rfl rfl hP hS zd_R_result_83

set_option maxHeartbeats 4000000 in
set_option maxRecDepth 100000 in
/-- result -/
theorem r_result_1 (l : Launch) (K : zK) (G : Nat → Nat) (A : Nat → Prop) (hD : ∀ σ, va_D A (mW K G σ)) (σ : mS) (t a k : Nat) (hB : mB σ) (ht : t < mR_targets σ) (ha : a < mR_aspects σ) (hk : k < 16) (h2 : mR_known σ ((mR_standsFor σ t * 8 + a) * 16 + k) = 2) : zMet l K A zy_R_result zws_R_result 1 [.ref (G 0), .int (nI t), .int (nI a), .int (nI k)] (mW K G σ) (mW K G (p_mR_thrown σ 0)) (some (.long (mR_results σ ((mR_standsFor σ t * 8 + a) * 16 + k)))) := by
  have hBo := hB.1
  have hBa := hB.2.1
  have hst := hB.2.2.1 t
  refine z_entry (by decide) (Nat.le_of_ble_eq_true rfl) ?_
  intro p e s m below meth c ls X hr hml hlocks hP hl
  have hS : va_S A s.heap s.heap [] := va_S.rf
  have hl : lv_has ls 4 [(0, .ref (G 0)), (1, .int (nI t)), (2, .int (nI a)), (3, .int (nI k))] := hl
  refine lv_aload_n X.1 X.2.1 zd_R_result_0 rfl (lv_at hl 0 rfl) ?_
  refine lv_aload_n X.1 X.2.1 zd_R_result_1 rfl (lv_at hl 0 rfl) ?_
  refine lv_iload_n X.1 X.2.1 zd_R_result_2 rfl (lv_at hl 1 rfl) ?_
  refine z_callVi (As := [.int (nI t)]) (rest := [.ref (G 0)]) (q0 := 0) (ci := 4) X hml (r_isTarget l K G A hD σ (nI t)) (zk_R_82 X.2.2.2.1 (z_rm (by omega) (by decide))) rfl rfl rfl hP hS rfl hl.1 rfl (Nat.le_of_ble_eq_true rfl) zd_R_result_3 ⟨Nat.zero_le _, Nat.zero_le _⟩ (fun H locs hP hS => ?_)
  refine lv_if_eq (tgt := 24) X.1 X.2.1 zd_R_result_6 (by decide) (fun h9 => absurd h9 (by show ¬ nI (cHas (mR_targets σ) _) = 0; rw [cHas_y ht (by omega)]; decide)) (fun _ => ?_)
  refine lv_aload_n X.1 X.2.1 zd_R_result_9 rfl (lv_at hl 0 rfl) ?_
  refine lv_iload_n X.1 X.2.1 zd_R_result_10 rfl (lv_at hl 2 rfl) ?_
  refine z_callVi (As := [.int (nI a)]) (rest := [.ref (G 0)]) (q0 := 0) (ci := 4) X hml (r_isAspect l K G A hD σ (nI a)) (zk_R_107 X.2.2.2.1 (z_rm (by omega) (by decide))) rfl rfl rfl hP hS rfl hl.1 rfl (Nat.le_of_ble_eq_true rfl) zd_R_result_11 ⟨Nat.zero_le _, Nat.zero_le _⟩ (fun H locs hP hS => ?_)
  refine lv_if_eq (tgt := 24) X.1 X.2.1 zd_R_result_14 (by decide) (fun h9 => absurd h9 (by show ¬ nI (cHas (mR_aspects σ) _) = 0; rw [cHas_y ha (by omega)]; decide)) (fun _ => ?_)
  refine lv_iload_n X.1 X.2.1 zd_R_result_17 rfl (lv_at hl 3 rfl) ?_
  refine z_callSi (As := [.int (nI k)]) (rest := [.ref (G 0)]) X hml (r_isSetting l K G A hD σ (nI k)) (zk_R_153 X.2.2.2.1 (z_rm (by omega) (by decide))) hP hS rfl hl.1 rfl (Nat.le_of_ble_eq_true rfl) zd_R_result_18 ⟨Nat.zero_le _, Nat.zero_le _⟩ (fun H locs hP hS => ?_)
  refine lv_if_ne (tgt := 28) X.1 X.2.1 zd_R_result_21 (by decide) (fun _ => ?_) (fun h9 => absurd h9 (by show ¬ nI (cHas (16) _) = 0; rw [cHas_y hk (by omega)]; decide))
  refine lv_aload_n X.1 X.2.1 zd_R_result_28 rfl (lv_at hl 0 rfl) ?_
  refine g_mR_known X hP zd_R_result_29 ?_
  refine lv_aload_n X.1 X.2.1 zd_R_result_32 rfl (lv_at hl 0 rfl) ?_
  refine g_mR_standsFor X hP zd_R_result_33 ?_
  refine lv_iload_n X.1 X.2.1 zd_R_result_36 rfl (lv_at hl 1 rfl) ?_
  refine l_mR_standsFor X hP (by omega) zd_R_result_37 ?_
  refine lv_iload_n X.1 X.2.1 zd_R_result_38 rfl (lv_at hl 2 rfl) ?_
  refine lv_iload_n X.1 X.2.1 zd_R_result_39 rfl (lv_at hl 3 rfl) ?_
  refine z_callSi (As := [.int (nI (mR_standsFor σ t)), .int (nI a), .int (nI k)]) (rest := [.ref (G 13), .ref (G 0)]) X hml (r_placeOf l K G A hD σ (mR_standsFor σ t) a k) (zk_R_103 X.2.2.2.1 (z_rm (by omega) (by decide))) hP hS rfl hl.1 rfl (Nat.le_of_ble_eq_true rfl) zd_R_result_40 ⟨Nat.zero_le _, Nat.zero_le _⟩ (fun H locs hP hS => ?_)
  refine l_mR_known X hP (by omega) zd_R_result_43 ?_
  refine lv_iconst (v := nI 2) X.1 X.2.1 zd_R_result_44 (by decide) ?_
  refine lv_icmp_eq (tgt := 52) X.1 X.2.1 zd_R_result_45 (by decide) (fun _ => ?_) (fun h9 => absurd (by rw [nI_eq (by omega) (by omega)]; exact h2) h9)
  refine lv_iconst (v := nI 0) X.1 X.2.1 zd_R_result_52 (by decide) ?_
  refine s_mR_thrown X hD hP hS zd_R_result_53 (fun H locs hP hS => ?_)
  have hP : va_P K.1 zcl (mW K G (p_mR_thrown σ 0)) H := hP
  refine lv_aload_n X.1 X.2.1 zd_R_result_56 rfl (lv_at hl 0 rfl) ?_
  refine g_mR_thrown X hP zd_R_result_57 ?_
  refine z_top (y := (nI 0)) rfl ?_
  refine lv_if_le (tgt := 67) X.1 X.2.1 zd_R_result_60 (by decide) (fun _ => ?_) (fun h9 => absurd (by decide) h9)
  refine lv_aload_n X.1 X.2.1 zd_R_result_67 rfl (lv_at hl 0 rfl) ?_
  refine g_mR_results X hP zd_R_result_68 ?_
  refine lv_aload_n X.1 X.2.1 zd_R_result_71 rfl (lv_at hl 0 rfl) ?_
  refine g_mR_standsFor X hP zd_R_result_72 ?_
  refine lv_iload_n X.1 X.2.1 zd_R_result_75 rfl (lv_at hl 1 rfl) ?_
  refine l_mR_standsFor X hP (by omega) zd_R_result_76 ?_
  refine z_top (y := (nI (mR_standsFor σ t))) rfl ?_
  refine lv_iload_n X.1 X.2.1 zd_R_result_77 rfl (lv_at hl 2 rfl) ?_
  refine lv_iload_n X.1 X.2.1 zd_R_result_78 rfl (lv_at hl 3 rfl) ?_
  refine z_callSi (As := [.int (nI (mR_standsFor σ t)), .int (nI a), .int (nI k)]) (rest := [.ref (G 14)]) X hml (r_placeOf l K G A hD (p_mR_thrown σ 0) (mR_standsFor σ t) a k) (zk_R_103 X.2.2.2.1 (z_rm (by omega) (by decide))) hP hS rfl hl.1 rfl (Nat.le_of_ble_eq_true rfl) zd_R_result_79 ⟨Nat.zero_le _, Nat.zero_le _⟩ (fun H locs hP hS => ?_)
  refine l_mR_results X hP (by omega) zd_R_result_82 ?_
  refine z_topl (y := (mR_results σ (((mR_standsFor σ t) * 8 + a) * 16 + k))) rfl ?_
  exact z_lret X.1 X.2.1 hr hlocks rfl rfl hP hS zd_R_result_83

set_option maxHeartbeats 4000000 in
set_option maxRecDepth 100000 in
/-- worked: none such -/
theorem r_worked_n (l : Launch) (K : zK) (G : Nat → Nat) (A : Nat → Prop) (hD : ∀ σ, va_D A (mW K G σ)) (σ : mS) (x y : Int32) (hB : mB σ) (h : ¬ ∃ t a, t < mR_targets σ ∧ x = nI t ∧ a < mR_aspects σ ∧ y = nI a) : zMet l K A zy_R_worked zws_R_worked 1 [.ref (G 0), .int x, .int y] (mW K G σ) (mW K G (p_mR_thrown σ 0)) (some (.int (nI 0))) := by
  have hBo := hB.1
  have hBa := hB.2.1
  refine z_entry (by decide) (Nat.le_of_ble_eq_true rfl) ?_
  intro p e s m below meth c ls X hr hml hlocks hP hl
  have hS : va_S A s.heap s.heap [] := va_S.rf
  have hl : lv_has ls 3 [(0, .ref (G 0)), (1, .int x), (2, .int y)] := hl
  refine lv_aload_n X.1 X.2.1 zd_R_worked_0 rfl (lv_at hl 0 rfl) ?_
  refine lv_iconst (v := nI 0) X.1 X.2.1 zd_R_worked_1 (by decide) ?_
  refine s_mR_thrown X hD hP hS zd_R_worked_2 (fun H locs hP hS => ?_)
  have hP : va_P K.1 zcl (mW K G (p_mR_thrown σ 0)) H := hP
  refine lv_aload_n X.1 X.2.1 zd_R_worked_5 rfl (lv_at hl 0 rfl) ?_
  refine lv_iload_n X.1 X.2.1 zd_R_worked_6 rfl (lv_at hl 1 rfl) ?_
  refine z_callVi (As := [.int x]) (rest := []) (q0 := 0) (ci := 4) X hml (r_isTarget l K G A hD (p_mR_thrown σ 0) x) (zk_R_82 X.2.2.2.1 (z_rm (by omega) (by decide))) rfl rfl rfl hP hS rfl hl.1 rfl (Nat.le_of_ble_eq_true rfl) zd_R_worked_7 ⟨Nat.zero_le _, Nat.zero_le _⟩ (fun H locs hP hS => ?_)
  refine lv_if_eq (tgt := 40) X.1 X.2.1 zd_R_worked_10 (by decide) (fun c1 => ?_) (fun c1 => ?_)
  · rw [z_eq0 (cHas_lt _ _)] at c1
    refine lv_iconst (v := nI 0) X.1 X.2.1 zd_R_worked_40 (by decide) ?_
    exact z_iret X.1 X.2.1 hr hlocks rfl rfl hP hS zd_R_worked_41
  · rw [z_eq0 (cHas_lt _ _)] at c1
    obtain ⟨t, ht, rfl⟩ := cHas_ex (o := mR_targets σ) (by omega) c1
    refine lv_aload_n X.1 X.2.1 zd_R_worked_13 rfl (lv_at hl 0 rfl) ?_
    refine lv_iload_n X.1 X.2.1 zd_R_worked_14 rfl (lv_at hl 2 rfl) ?_
    refine z_callVi (As := [.int y]) (rest := []) (q0 := 0) (ci := 4) X hml (r_isAspect l K G A hD (p_mR_thrown σ 0) y) (zk_R_107 X.2.2.2.1 (z_rm (by omega) (by decide))) rfl rfl rfl hP hS rfl hl.1 rfl (Nat.le_of_ble_eq_true rfl) zd_R_worked_15 ⟨Nat.zero_le _, Nat.zero_le _⟩ (fun H locs hP hS => ?_)
    refine lv_if_eq (tgt := 40) X.1 X.2.1 zd_R_worked_18 (by decide) (fun c2 => ?_) (fun c2 => ?_)
    · rw [z_eq0 (cHas_lt _ _)] at c2
      refine lv_iconst (v := nI 0) X.1 X.2.1 zd_R_worked_40 (by decide) ?_
      exact z_iret X.1 X.2.1 hr hlocks rfl rfl hP hS zd_R_worked_41
    · rw [z_eq0 (cHas_lt _ _)] at c2
      obtain ⟨a, ha, rfl⟩ := cHas_ex (o := mR_aspects σ) (by omega) c2
      exact absurd ⟨t, a, ht, rfl, ha, rfl⟩ h

set_option maxHeartbeats 4000000 in
set_option maxRecDepth 100000 in
/-- worked -/
theorem r_worked_1 (l : Launch) (K : zK) (G : Nat → Nat) (A : Nat → Prop) (hD : ∀ σ, va_D A (mW K G σ)) (σ : mS) (t a : Nat) (hB : mB σ) (ht : t < mR_targets σ) (ha : a < mR_aspects σ) : zMet l K A zy_R_worked zws_R_worked 1 [.ref (G 0), .int (nI t), .int (nI a)] (mW K G σ) (mW K G (p_mR_thrown σ 0)) (some (.int (mR_times σ (8 * mR_standsFor σ t + a)))) := by
  have hBo := hB.1
  have hBa := hB.2.1
  have hst := hB.2.2.1 t
  refine z_entry (by decide) (Nat.le_of_ble_eq_true rfl) ?_
  intro p e s m below meth c ls X hr hml hlocks hP hl
  have hS : va_S A s.heap s.heap [] := va_S.rf
  have hl : lv_has ls 3 [(0, .ref (G 0)), (1, .int (nI t)), (2, .int (nI a))] := hl
  refine lv_aload_n X.1 X.2.1 zd_R_worked_0 rfl (lv_at hl 0 rfl) ?_
  refine lv_iconst (v := nI 0) X.1 X.2.1 zd_R_worked_1 (by decide) ?_
  refine s_mR_thrown X hD hP hS zd_R_worked_2 (fun H locs hP hS => ?_)
  have hP : va_P K.1 zcl (mW K G (p_mR_thrown σ 0)) H := hP
  refine lv_aload_n X.1 X.2.1 zd_R_worked_5 rfl (lv_at hl 0 rfl) ?_
  refine lv_iload_n X.1 X.2.1 zd_R_worked_6 rfl (lv_at hl 1 rfl) ?_
  refine z_callVi (As := [.int (nI t)]) (rest := []) (q0 := 0) (ci := 4) X hml (r_isTarget l K G A hD (p_mR_thrown σ 0) (nI t)) (zk_R_82 X.2.2.2.1 (z_rm (by omega) (by decide))) rfl rfl rfl hP hS rfl hl.1 rfl (Nat.le_of_ble_eq_true rfl) zd_R_worked_7 ⟨Nat.zero_le _, Nat.zero_le _⟩ (fun H locs hP hS => ?_)
  refine lv_if_eq (tgt := 40) X.1 X.2.1 zd_R_worked_10 (by decide) (fun h9 => absurd h9 (by show ¬ nI (cHas (mR_targets σ) _) = 0; rw [cHas_y ht (by omega)]; decide)) (fun _ => ?_)
  refine lv_aload_n X.1 X.2.1 zd_R_worked_13 rfl (lv_at hl 0 rfl) ?_
  refine lv_iload_n X.1 X.2.1 zd_R_worked_14 rfl (lv_at hl 2 rfl) ?_
  refine z_callVi (As := [.int (nI a)]) (rest := []) (q0 := 0) (ci := 4) X hml (r_isAspect l K G A hD (p_mR_thrown σ 0) (nI a)) (zk_R_107 X.2.2.2.1 (z_rm (by omega) (by decide))) rfl rfl rfl hP hS rfl hl.1 rfl (Nat.le_of_ble_eq_true rfl) zd_R_worked_15 ⟨Nat.zero_le _, Nat.zero_le _⟩ (fun H locs hP hS => ?_)
  refine lv_if_eq (tgt := 40) X.1 X.2.1 zd_R_worked_18 (by decide) (fun h9 => absurd h9 (by show ¬ nI (cHas (mR_aspects σ) _) = 0; rw [cHas_y ha (by omega)]; decide)) (fun _ => ?_)
  refine lv_aload_n X.1 X.2.1 zd_R_worked_21 rfl (lv_at hl 0 rfl) ?_
  refine g_mR_times X hP zd_R_worked_22 ?_
  refine lv_bipush (v := nI 8) X.1 X.2.1 zd_R_worked_25 (by decide) ?_
  refine lv_aload_n X.1 X.2.1 zd_R_worked_27 rfl (lv_at hl 0 rfl) ?_
  refine g_mR_standsFor X hP zd_R_worked_28 ?_
  refine lv_iload_n X.1 X.2.1 zd_R_worked_31 rfl (lv_at hl 1 rfl) ?_
  refine l_mR_standsFor X hP (by omega) zd_R_worked_32 ?_
  refine z_top (y := (nI (mR_standsFor σ t))) rfl ?_
  refine lv_imul X.1 X.2.1 zd_R_worked_33 ?_
  refine z_top (pk_mul _ _) ?_
  refine lv_iload_n X.1 X.2.1 zd_R_worked_34 rfl (lv_at hl 2 rfl) ?_
  refine lv_iadd X.1 X.2.1 zd_R_worked_35 ?_
  refine z_top (nI_add _ _) ?_
  refine l_mR_times X hP (by omega) zd_R_worked_36 ?_
  refine z_top (y := (mR_times σ ((8 * (mR_standsFor σ t)) + a))) rfl ?_
  refine lv_goto (tgt := 41) X.1 X.2.1 zd_R_worked_37 (by decide) ?_
  exact z_iret X.1 X.2.1 hr hlocks rfl rfl hP hS zd_R_worked_41

set_option maxHeartbeats 4000000 in
set_option maxRecDepth 100000 in
/-- done's loop -/
theorem q_R_done {p : Program} {e : Env} {s : State} {m : MethodId} {args : Array Value} {below : List Frame} {meth : Method} {c : Code} (l : Launch) (K : zK) (G : Nat → Nat) (A : Nat → Prop) (hD : ∀ σ, va_D A (mW K G σ)) (X : zFx K zR_R zb_R_done p s m args c) (hr : meth.sig.returnType = (some .int)) (hml : c.maxLocals = 3) (hlocks : meth.locks = false) (σ : mS) (hkn2 : ∀ q, mR_known σ q ≤ 2) : ∀ (j i : Nat), i + j = 2560 → ∀ (H : Heap) (locs : List Loc) (ls : Array Slot), va_P K.1 zcl (mW K G σ) H → va_S A s.heap H locs → lv_has ls 3 [(2, .int (nI i)), (1, .int (nI (mCnt σ i))), (0, .ref (G 0))] → W p l e (zrm 1) s m args below meth c H locs 0 0 (MQ below (zPost K A (mW K G σ) (some (.int (nI (mCnt σ 2560))))) args s 0 0 A) (F0 m 9 ls []) := by
  intro j
  induction j with
  | zero =>
    intro i hi H locs ls hP hS hl
    have hkn := hkn2 i
    refine lv_iload_n X.1 X.2.1 zd_R_done_9 rfl (lv_at hl 0 rfl) ?_
    refine lv_sipush (v := nI 2560) X.1 X.2.1 zd_R_done_10 (by decide) ?_
    refine lv_icmp_ge (tgt := 40) X.1 X.2.1 zd_R_done_13 (by decide) (fun _ => ?_) (fun h9 => absurd (by rw [nI_leI (by omega) (by omega)]; omega) h9)
    refine lv_iload_n X.1 X.2.1 zd_R_done_40 rfl (lv_at hl 1 rfl) ?_
    exact z_iret X.1 X.2.1 hr hlocks (by rw [show i = 2560 by omega]) rfl hP hS zd_R_done_41
  | succ j ih =>
    intro i hi H locs ls hP hS hl
    have hkn := hkn2 i
    refine lv_iload_n X.1 X.2.1 zd_R_done_9 rfl (lv_at hl 0 rfl) ?_
    refine lv_sipush (v := nI 2560) X.1 X.2.1 zd_R_done_10 (by decide) ?_
    refine lv_icmp_ge (tgt := 40) X.1 X.2.1 zd_R_done_13 (by decide) (fun h9 => absurd h9 (by rw [nI_leI (by omega) (by omega)]; omega)) (fun _ => ?_)
    refine lv_iload_n X.1 X.2.1 zd_R_done_16 rfl (lv_at hl 1 rfl) ?_
    refine lv_aload_n X.1 X.2.1 zd_R_done_17 rfl (lv_at hl 2 rfl) ?_
    refine g_mR_known X hP zd_R_done_18 ?_
    refine lv_iload_n X.1 X.2.1 zd_R_done_21 rfl (lv_at hl 0 rfl) ?_
    refine l_mR_known X hP (by omega) zd_R_done_22 ?_
    refine lv_iconst (v := nI 2) X.1 X.2.1 zd_R_done_23 (by decide) ?_
    refine lv_icmp_ne (tgt := 31) X.1 X.2.1 zd_R_done_24 (by decide) (fun c1 => ?_) (fun c1 => ?_)
    · rw [nI_eq (by omega) (by omega)] at c1
      refine lv_iconst (v := nI 0) X.1 X.2.1 zd_R_done_31 (by decide) ?_
      refine lv_iadd X.1 X.2.1 zd_R_done_32 ?_
      refine z_top (nI_add _ _) ?_
      refine lv_istore_n (lv' := [(1, .int (nI ((mCnt σ i) + 0))), (2, .int (nI i)), (0, .ref (G 0))]) X.1 X.2.1 zd_R_done_33 rfl hl (by decide) rfl (fun ls hl => ?_)
      refine lv_iinc (v := nI (i + 1)) (lv' := [(2, .int (nI (i + 1))), (1, .int (nI ((mCnt σ i) + 0))), (0, .ref (G 0))]) X.1 X.2.1 zd_R_done_34 hl (k := 1) rfl (nI_1 _) (by decide) rfl (fun ls hl => ?_)
      refine lv_goto (tgt := 9) X.1 X.2.1 zd_R_done_37 (by decide) ?_
      exact ih (i + 1) (by omega) H locs ls hP hS (by rw [show mCnt σ (i + 1) = (mCnt σ i) + 0 from (by rw [mCnt]; simp only [if_neg c1])]; exact lv_sub hl [0, 1, 2] rfl)
    · rw [nI_eq (by omega) (by omega)] at c1
      refine lv_iconst (v := nI 1) X.1 X.2.1 zd_R_done_27 (by decide) ?_
      refine lv_goto (tgt := 32) X.1 X.2.1 zd_R_done_28 (by decide) ?_
      refine lv_iadd X.1 X.2.1 zd_R_done_32 ?_
      refine z_top (nI_add _ _) ?_
      refine lv_istore_n (lv' := [(1, .int (nI ((mCnt σ i) + 1))), (2, .int (nI i)), (0, .ref (G 0))]) X.1 X.2.1 zd_R_done_33 rfl hl (by decide) rfl (fun ls hl => ?_)
      refine lv_iinc (v := nI (i + 1)) (lv' := [(2, .int (nI (i + 1))), (1, .int (nI ((mCnt σ i) + 1))), (0, .ref (G 0))]) X.1 X.2.1 zd_R_done_34 hl (k := 1) rfl (nI_1 _) (by decide) rfl (fun ls hl => ?_)
      refine lv_goto (tgt := 9) X.1 X.2.1 zd_R_done_37 (by decide) ?_
      exact ih (i + 1) (by omega) H locs ls hP hS (by rw [show mCnt σ (i + 1) = (mCnt σ i) + 1 from (by rw [mCnt]; simp only [if_pos c1])]; exact lv_sub hl [0, 1, 2] rfl)

set_option maxHeartbeats 4000000 in
set_option maxRecDepth 100000 in
/-- done -/
theorem r_done (l : Launch) (K : zK) (G : Nat → Nat) (A : Nat → Prop) (hD : ∀ σ, va_D A (mW K G σ)) (σ : mS) (hkn2 : ∀ q, mR_known σ q ≤ 2) : zMet l K A zy_R_done zws_R_done 1 [.ref (G 0)] (mW K G σ) (mW K G (p_mR_thrown σ 0)) (some (.int (nI (mCnt (p_mR_thrown σ 0) 2560)))) := by
  refine z_entry (by decide) (Nat.le_of_ble_eq_true rfl) ?_
  intro p e s m below meth c ls X hr hml hlocks hP hl
  have hS : va_S A s.heap s.heap [] := va_S.rf
  have hl : lv_has ls 3 [(0, .ref (G 0))] := hl
  refine lv_aload_n X.1 X.2.1 zd_R_done_0 rfl (lv_at hl 0 rfl) ?_
  refine lv_iconst (v := nI 0) X.1 X.2.1 zd_R_done_1 (by decide) ?_
  refine s_mR_thrown X hD hP hS zd_R_done_2 (fun H locs hP hS => ?_)
  have hP : va_P K.1 zcl (mW K G (p_mR_thrown σ 0)) H := hP
  refine lv_iconst (v := nI 0) X.1 X.2.1 zd_R_done_5 (by decide) ?_
  refine lv_istore_n (lv' := [(1, .int (nI 0)), (0, .ref (G 0))]) X.1 X.2.1 zd_R_done_6 rfl hl (by decide) rfl (fun ls hl => ?_)
  refine lv_iconst (v := nI 0) X.1 X.2.1 zd_R_done_7 (by decide) ?_
  refine lv_istore_n (lv' := [(2, .int (nI 0)), (1, .int (nI 0)), (0, .ref (G 0))]) X.1 X.2.1 zd_R_done_8 rfl hl (by decide) rfl (fun ls hl => ?_)
  exact q_R_done l K G A hD X hr hml hlocks (p_mR_thrown σ 0) hkn2 2560 0 rfl H locs ls hP hS (lv_sub hl [0, 1, 2] rfl)

set_option maxHeartbeats 4000000 in
set_option maxRecDepth 100000 in
/-- maker: none such -/
theorem r_maker_n (l : Launch) (K : zK) (G : Nat → Nat) (A : Nat → Prop) (hD : ∀ σ, va_D A (mW K G σ)) (σ : mS) (x y : Int32) (hB : mB σ) (h : ¬ ∃ t q, t < mR_targets σ ∧ x = nI t ∧ q < 10 ∧ y = nI q) : zMet l K A zy_R_maker zws_R_maker 1 [.ref (G 0), .int x, .int y] (mW K G σ) (mW K G (p_mR_thrown σ 0)) (some (.int (-1))) := by
  have hBo := hB.1
  have hBa := hB.2.1
  refine z_entry (by decide) (Nat.le_of_ble_eq_true rfl) ?_
  intro p e s m below meth c ls X hr hml hlocks hP hl
  have hS : va_S A s.heap s.heap [] := va_S.rf
  have hl : lv_has ls 4 [(0, .ref (G 0)), (1, .int x), (2, .int y)] := hl
  refine lv_aload_n X.1 X.2.1 zd_R_maker_0 rfl (lv_at hl 0 rfl) ?_
  refine lv_iconst (v := nI 0) X.1 X.2.1 zd_R_maker_1 (by decide) ?_
  refine s_mR_thrown X hD hP hS zd_R_maker_2 (fun H locs hP hS => ?_)
  have hP : va_P K.1 zcl (mW K G (p_mR_thrown σ 0)) H := hP
  refine lv_aload_n X.1 X.2.1 zd_R_maker_5 rfl (lv_at hl 0 rfl) ?_
  refine lv_iload_n X.1 X.2.1 zd_R_maker_6 rfl (lv_at hl 1 rfl) ?_
  refine z_callVi (As := [.int x]) (rest := []) (q0 := 0) (ci := 4) X hml (r_isTarget l K G A hD (p_mR_thrown σ 0) x) (zk_R_82 X.2.2.2.1 (z_rm (by omega) (by decide))) rfl rfl rfl hP hS rfl hl.1 rfl (Nat.le_of_ble_eq_true rfl) zd_R_maker_7 ⟨Nat.zero_le _, Nat.zero_le _⟩ (fun H locs hP hS => ?_)
  refine lv_if_eq (tgt := 23) X.1 X.2.1 zd_R_maker_10 (by decide) (fun c1 => ?_) (fun c1 => ?_)
  · rw [z_eq0 (cHas_lt _ _)] at c1
    refine lv_iconst (v := -1) X.1 X.2.1 zd_R_maker_23 (by decide) ?_
    exact z_iret X.1 X.2.1 hr hlocks rfl rfl hP hS zd_R_maker_24
  · rw [z_eq0 (cHas_lt _ _)] at c1
    obtain ⟨t, ht, rfl⟩ := cHas_ex (o := mR_targets σ) (by omega) c1
    refine lv_iload_n X.1 X.2.1 zd_R_maker_13 rfl (lv_at hl 2 rfl) ?_
    refine lv_if_lt (tgt := 23) X.1 X.2.1 zd_R_maker_14 (by decide) (fun c2 => ?_) (fun c2 => ?_)
    · refine lv_iconst (v := -1) X.1 X.2.1 zd_R_maker_23 (by decide) ?_
      exact z_iret X.1 X.2.1 hr hlocks rfl rfl hP hS zd_R_maker_24
    · refine lv_iload_n X.1 X.2.1 zd_R_maker_17 rfl (lv_at hl 2 rfl) ?_
      refine lv_bipush (v := nI 10) X.1 X.2.1 zd_R_maker_18 (by decide) ?_
      refine lv_icmp_lt (tgt := 25) X.1 X.2.1 zd_R_maker_20 (by decide) (fun c3 => ?_) (fun c3 => ?_)
      · exact absurd (by obtain ⟨q, hq, e⟩ := z_rng c2 (show ¬ nI 10 ≤ y from Int32.not_le.mpr c3) (by decide); exact ⟨t, q, ht, rfl, hq, e⟩) h
      · refine lv_iconst (v := -1) X.1 X.2.1 zd_R_maker_23 (by decide) ?_
        exact z_iret X.1 X.2.1 hr hlocks rfl rfl hP hS zd_R_maker_24

set_option maxHeartbeats 4000000 in
set_option maxRecDepth 100000 in
/-- maker: none -/
theorem r_maker_0 (l : Launch) (K : zK) (G : Nat → Nat) (A : Nat → Prop) (hD : ∀ σ, va_D A (mW K G σ)) (σ : mS) (t q : Nat) (hB : mB σ) (ht : t < mR_targets σ) (hq : q < 10) (hm : mR_madeBy σ (10 * mR_standsFor σ t + q) = -1) : zMet l K A zy_R_maker zws_R_maker 1 [.ref (G 0), .int (nI t), .int (nI q)] (mW K G σ) (mW K G (p_mR_thrown σ 0)) (some (.int (-1))) := by
  have hBo := hB.1
  have hBa := hB.2.1
  have hst := hB.2.2.1 t
  refine z_entry (by decide) (Nat.le_of_ble_eq_true rfl) ?_
  intro p e s m below meth c ls X hr hml hlocks hP hl
  have hS : va_S A s.heap s.heap [] := va_S.rf
  have hl : lv_has ls 4 [(0, .ref (G 0)), (1, .int (nI t)), (2, .int (nI q))] := hl
  refine lv_aload_n X.1 X.2.1 zd_R_maker_0 rfl (lv_at hl 0 rfl) ?_
  refine lv_iconst (v := nI 0) X.1 X.2.1 zd_R_maker_1 (by decide) ?_
  refine s_mR_thrown X hD hP hS zd_R_maker_2 (fun H locs hP hS => ?_)
  have hP : va_P K.1 zcl (mW K G (p_mR_thrown σ 0)) H := hP
  refine lv_aload_n X.1 X.2.1 zd_R_maker_5 rfl (lv_at hl 0 rfl) ?_
  refine lv_iload_n X.1 X.2.1 zd_R_maker_6 rfl (lv_at hl 1 rfl) ?_
  refine z_callVi (As := [.int (nI t)]) (rest := []) (q0 := 0) (ci := 4) X hml (r_isTarget l K G A hD (p_mR_thrown σ 0) (nI t)) (zk_R_82 X.2.2.2.1 (z_rm (by omega) (by decide))) rfl rfl rfl hP hS rfl hl.1 rfl (Nat.le_of_ble_eq_true rfl) zd_R_maker_7 ⟨Nat.zero_le _, Nat.zero_le _⟩ (fun H locs hP hS => ?_)
  refine lv_if_eq (tgt := 23) X.1 X.2.1 zd_R_maker_10 (by decide) (fun h9 => absurd h9 (by show ¬ nI (cHas (mR_targets σ) _) = 0; rw [cHas_y ht (by omega)]; decide)) (fun _ => ?_)
  refine lv_iload_n X.1 X.2.1 zd_R_maker_13 rfl (lv_at hl 2 rfl) ?_
  refine lv_if_lt (tgt := 23) X.1 X.2.1 zd_R_maker_14 (by decide) (fun h9 => absurd h9 (nI_pos (by omega))) (fun _ => ?_)
  refine lv_iload_n X.1 X.2.1 zd_R_maker_17 rfl (lv_at hl 2 rfl) ?_
  refine lv_bipush (v := nI 10) X.1 X.2.1 zd_R_maker_18 (by decide) ?_
  refine lv_icmp_lt (tgt := 25) X.1 X.2.1 zd_R_maker_20 (by decide) (fun _ => ?_) (fun h9 => absurd (by rw [nI_ltI (by omega) (by omega)]; omega) h9)
  refine lv_aload_n X.1 X.2.1 zd_R_maker_25 rfl (lv_at hl 0 rfl) ?_
  refine g_mR_madeBy X hP zd_R_maker_26 ?_
  refine lv_bipush (v := nI 10) X.1 X.2.1 zd_R_maker_29 (by decide) ?_
  refine lv_aload_n X.1 X.2.1 zd_R_maker_31 rfl (lv_at hl 0 rfl) ?_
  refine g_mR_standsFor X hP zd_R_maker_32 ?_
  refine lv_iload_n X.1 X.2.1 zd_R_maker_35 rfl (lv_at hl 1 rfl) ?_
  refine l_mR_standsFor X hP (by omega) zd_R_maker_36 ?_
  refine z_top (y := (nI (mR_standsFor σ t))) rfl ?_
  refine lv_imul X.1 X.2.1 zd_R_maker_37 ?_
  refine z_top (pk_mul _ _) ?_
  refine lv_iload_n X.1 X.2.1 zd_R_maker_38 rfl (lv_at hl 2 rfl) ?_
  refine lv_iadd X.1 X.2.1 zd_R_maker_39 ?_
  refine z_top (nI_add _ _) ?_
  refine l_mR_madeBy X hP (by omega) zd_R_maker_40 ?_
  refine z_top (y := (mR_madeBy σ ((10 * (mR_standsFor σ t)) + q))) rfl ?_
  refine lv_istore_n (lv' := [(3, .int (mR_madeBy σ ((10 * (mR_standsFor σ t)) + q))), (0, .ref (G 0)), (1, .int (nI t)), (2, .int (nI q))]) X.1 X.2.1 zd_R_maker_41 rfl hl (by decide) rfl (fun ls hl => ?_)
  refine lv_iload_n X.1 X.2.1 zd_R_maker_42 rfl (lv_at hl 0 rfl) ?_
  refine lv_iconst (v := -1) X.1 X.2.1 zd_R_maker_43 (by decide) ?_
  refine lv_icmp_ne (tgt := 51) X.1 X.2.1 zd_R_maker_44 (by decide) (fun h9 => absurd hm h9) (fun _ => ?_)
  refine lv_iconst (v := -1) X.1 X.2.1 zd_R_maker_47 (by decide) ?_
  refine lv_goto (tgt := 55) X.1 X.2.1 zd_R_maker_48 (by decide) ?_
  exact z_iret X.1 X.2.1 hr hlocks rfl rfl hP hS zd_R_maker_55

set_option maxHeartbeats 4000000 in
set_option maxRecDepth 100000 in
/-- maker -/
theorem r_maker_1 (l : Launch) (K : zK) (G : Nat → Nat) (A : Nat → Prop) (hD : ∀ σ, va_D A (mW K G σ)) (σ : mS) (t q : Nat) (hB : mB σ) (ht : t < mR_targets σ) (hq : q < 10) (hm : ¬ mR_madeBy σ (10 * mR_standsFor σ t + q) = -1) (n : Nat) (hn128 : n < 128) (hn : mR_madeBy σ (10 * mR_standsFor σ t + q) = nI n) : zMet l K A zy_R_maker zws_R_maker 1 [.ref (G 0), .int (nI t), .int (nI q)] (mW K G σ) (mW K G (p_mR_thrown σ 0)) (some (.int (nI (n / 16)))) := by
  have hBo := hB.1
  have hBa := hB.2.1
  have hst := hB.2.2.1 t
  refine z_entry (by decide) (Nat.le_of_ble_eq_true rfl) ?_
  intro p e s m below meth c ls X hr hml hlocks hP hl
  have hS : va_S A s.heap s.heap [] := va_S.rf
  have hl : lv_has ls 4 [(0, .ref (G 0)), (1, .int (nI t)), (2, .int (nI q))] := hl
  refine lv_aload_n X.1 X.2.1 zd_R_maker_0 rfl (lv_at hl 0 rfl) ?_
  refine lv_iconst (v := nI 0) X.1 X.2.1 zd_R_maker_1 (by decide) ?_
  refine s_mR_thrown X hD hP hS zd_R_maker_2 (fun H locs hP hS => ?_)
  have hP : va_P K.1 zcl (mW K G (p_mR_thrown σ 0)) H := hP
  refine lv_aload_n X.1 X.2.1 zd_R_maker_5 rfl (lv_at hl 0 rfl) ?_
  refine lv_iload_n X.1 X.2.1 zd_R_maker_6 rfl (lv_at hl 1 rfl) ?_
  refine z_callVi (As := [.int (nI t)]) (rest := []) (q0 := 0) (ci := 4) X hml (r_isTarget l K G A hD (p_mR_thrown σ 0) (nI t)) (zk_R_82 X.2.2.2.1 (z_rm (by omega) (by decide))) rfl rfl rfl hP hS rfl hl.1 rfl (Nat.le_of_ble_eq_true rfl) zd_R_maker_7 ⟨Nat.zero_le _, Nat.zero_le _⟩ (fun H locs hP hS => ?_)
  refine lv_if_eq (tgt := 23) X.1 X.2.1 zd_R_maker_10 (by decide) (fun h9 => absurd h9 (by show ¬ nI (cHas (mR_targets σ) _) = 0; rw [cHas_y ht (by omega)]; decide)) (fun _ => ?_)
  refine lv_iload_n X.1 X.2.1 zd_R_maker_13 rfl (lv_at hl 2 rfl) ?_
  refine lv_if_lt (tgt := 23) X.1 X.2.1 zd_R_maker_14 (by decide) (fun h9 => absurd h9 (nI_pos (by omega))) (fun _ => ?_)
  refine lv_iload_n X.1 X.2.1 zd_R_maker_17 rfl (lv_at hl 2 rfl) ?_
  refine lv_bipush (v := nI 10) X.1 X.2.1 zd_R_maker_18 (by decide) ?_
  refine lv_icmp_lt (tgt := 25) X.1 X.2.1 zd_R_maker_20 (by decide) (fun _ => ?_) (fun h9 => absurd (by rw [nI_ltI (by omega) (by omega)]; omega) h9)
  refine lv_aload_n X.1 X.2.1 zd_R_maker_25 rfl (lv_at hl 0 rfl) ?_
  refine g_mR_madeBy X hP zd_R_maker_26 ?_
  refine lv_bipush (v := nI 10) X.1 X.2.1 zd_R_maker_29 (by decide) ?_
  refine lv_aload_n X.1 X.2.1 zd_R_maker_31 rfl (lv_at hl 0 rfl) ?_
  refine g_mR_standsFor X hP zd_R_maker_32 ?_
  refine lv_iload_n X.1 X.2.1 zd_R_maker_35 rfl (lv_at hl 1 rfl) ?_
  refine l_mR_standsFor X hP (by omega) zd_R_maker_36 ?_
  refine z_top (y := (nI (mR_standsFor σ t))) rfl ?_
  refine lv_imul X.1 X.2.1 zd_R_maker_37 ?_
  refine z_top (pk_mul _ _) ?_
  refine lv_iload_n X.1 X.2.1 zd_R_maker_38 rfl (lv_at hl 2 rfl) ?_
  refine lv_iadd X.1 X.2.1 zd_R_maker_39 ?_
  refine z_top (nI_add _ _) ?_
  refine l_mR_madeBy X hP (by omega) zd_R_maker_40 ?_
  refine z_top (y := (mR_madeBy σ ((10 * (mR_standsFor σ t)) + q))) rfl ?_
  refine lv_istore_n (lv' := [(3, .int (mR_madeBy σ ((10 * (mR_standsFor σ t)) + q))), (0, .ref (G 0)), (1, .int (nI t)), (2, .int (nI q))]) X.1 X.2.1 zd_R_maker_41 rfl hl (by decide) rfl (fun ls hl => ?_)
  refine lv_iload_n X.1 X.2.1 zd_R_maker_42 rfl (lv_at hl 0 rfl) ?_
  refine lv_iconst (v := -1) X.1 X.2.1 zd_R_maker_43 (by decide) ?_
  refine lv_icmp_ne (tgt := 51) X.1 X.2.1 zd_R_maker_44 (by decide) (fun _ => ?_) (fun h9 => absurd h9 hm)
  refine lv_iload_n X.1 X.2.1 zd_R_maker_51 rfl (lv_at hl 0 rfl) ?_
  refine z_top hn ?_
  refine lv_bipush (v := nI 16) X.1 X.2.1 zd_R_maker_52 (by decide) ?_
  refine lv_idiv X.1 X.2.1 zd_R_maker_54 (by decide) ?_
  refine z_top (pk_div (by omega) (by decide) (by decide)) ?_
  exact z_iret X.1 X.2.1 hr hlocks rfl rfl hP hS zd_R_maker_55

