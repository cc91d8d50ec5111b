/-! contracts of the class's leaves (by program: wip/gen/leafs.py) -/
/-- a bit of a mask, as the class asks for it -/
def cLead (r : Int32) (o : Nat) : Nat := if (r >>> (nI o &&& 31)) &&& nI 1 = 0 then 0 else 1
def cHas (o : Nat) (x : Int32) : Nat := if x < 0 then 0 else if nI o ≤ x then 0 else 1
theorem cLead_le (r : Int32) (o : Nat) : cLead r o ≤ 1 := by unfold cLead; split <;> omega
theorem cLead_lt (r : Int32) (o : Nat) : cLead r o < 2 ^ 31 := Nat.lt_of_le_of_lt (cLead_le r o) (by decide)
theorem cHas_le (o : Nat) (x : Int32) : cHas o x ≤ 1 := by unfold cHas; split <;> (try split) <;> omega
theorem cHas_lt (o : Nat) (x : Int32) : cHas o x < 2 ^ 31 := Nat.lt_of_le_of_lt (cHas_le o x) (by decide)
def cKnown (σ : cS) (t a k : Nat) : Int32 := if (cM_doneSettings σ (t * 8 + a) >>> (nI k &&& 31)) &&& nI 1 = 0 then (if (cM_passedSettings σ (t * 8 + a) >>> (nI k &&& 31)) &&& nI 1 = 0 then -1 else nI 0) else nI 1

set_option maxHeartbeats 4000000 in
set_option maxRecDepth 100000 in
/-- Targets.count() -/
theorem k_T_count (l : Launch) (K : zK) (G : Nat → Nat) (A : Nat → Prop) (hD : ∀ σ, va_D A (cW K G σ)) (σ : cS)  : zMet l K A zy_T_count zws_T_count 0 [.ref (G 1)] (cW K G σ) (cW K G σ) (some (.int (nI (cT_opened σ)))) := by
  refine z_entry (by decide) (Nat.le_of_ble_eq_true rfl) ?_
  intro p e s m below meth c ls X hr hml hlocks hP hl
  have hS : va_S A s.heap s.heap [] := va_S.rf
  have hl : lv_has ls 1 [(0, .ref (G 1))] := hl
  refine lv_aload_n X.1 X.2.1 zd_T_count_0 rfl (lv_at hl 0 rfl) ?_
  refine g_cT_opened X hP zd_T_count_1 ?_
  exact z_iret X.1 X.2.1 hr hlocks rfl rfl hP hS zd_T_count_4

set_option maxHeartbeats 4000000 in
set_option maxRecDepth 100000 in
/-- Aspects.count() -/
theorem k_A_count (l : Launch) (K : zK) (G : Nat → Nat) (A : Nat → Prop) (hD : ∀ σ, va_D A (cW K G σ)) (σ : cS)  : zMet l K A zy_A_count zws_A_count 0 [.ref (G 2)] (cW K G σ) (cW K G σ) (some (.int (nI (cA_opened σ)))) := by
  refine z_entry (by decide) (Nat.le_of_ble_eq_true rfl) ?_
  intro p e s m below meth c ls X hr hml hlocks hP hl
  have hS : va_S A s.heap s.heap [] := va_S.rf
  have hl : lv_has ls 1 [(0, .ref (G 2))] := hl
  refine lv_aload_n X.1 X.2.1 zd_A_count_0 rfl (lv_at hl 0 rfl) ?_
  refine g_cA_opened X hP zd_A_count_1 ?_
  exact z_iret X.1 X.2.1 hr hlocks rfl rfl hP hS zd_A_count_4

set_option maxHeartbeats 4000000 in
set_option maxRecDepth 100000 in
/-- Targets.has(x) -/
theorem k_T_has (l : Launch) (K : zK) (G : Nat → Nat) (A : Nat → Prop) (hD : ∀ σ, va_D A (cW K G σ)) (σ : cS) (x : Int32) : zMet l K A zy_T_has zws_T_has 0 [.ref (G 1), .int x] (cW K G σ) (cW K G σ) (some (.int (nI (cHas (cT_opened σ) x)))) := by
  refine z_entry (by decide) (Nat.le_of_ble_eq_true rfl) ?_
  intro p e s m below meth c ls X hr hml hlocks hP hl
  have hS : va_S A s.heap s.heap [] := va_S.rf
  have hl : lv_has ls 2 [(0, .ref (G 1)), (1, .int x)] := hl
  refine lv_iload_n X.1 X.2.1 zd_T_has_0 rfl (lv_at hl 1 rfl) ?_
  refine lv_if_lt (tgt := 16) X.1 X.2.1 zd_T_has_1 (by decide) (fun c1 => ?_) (fun c1 => ?_)
  · refine lv_iconst (v := nI 0) X.1 X.2.1 zd_T_has_16 (by decide) ?_
    exact z_zret X.1 X.2.1 hr hlocks (Or.inl rfl) (by simp [cHas, *]) rfl hP hS zd_T_has_17
  · refine lv_iload_n X.1 X.2.1 zd_T_has_4 rfl (lv_at hl 1 rfl) ?_
    refine lv_aload_n X.1 X.2.1 zd_T_has_5 rfl (lv_at hl 0 rfl) ?_
    refine g_cT_opened X hP zd_T_has_6 ?_
    refine lv_icmp_ge (tgt := 16) X.1 X.2.1 zd_T_has_9 (by decide) (fun c2 => ?_) (fun c2 => ?_)
    · refine lv_iconst (v := nI 0) X.1 X.2.1 zd_T_has_16 (by decide) ?_
      exact z_zret X.1 X.2.1 hr hlocks (Or.inl rfl) (by simp [cHas, *]) rfl hP hS zd_T_has_17
    · refine lv_iconst (v := nI 1) X.1 X.2.1 zd_T_has_12 (by decide) ?_
      refine lv_goto (tgt := 17) X.1 X.2.1 zd_T_has_13 (by decide) ?_
      exact z_zret X.1 X.2.1 hr hlocks (Or.inr rfl) (by simp [cHas, *]) rfl hP hS zd_T_has_17

set_option maxHeartbeats 4000000 in
set_option maxRecDepth 100000 in
/-- Aspects.has(x) -/
theorem k_A_has (l : Launch) (K : zK) (G : Nat → Nat) (A : Nat → Prop) (hD : ∀ σ, va_D A (cW K G σ)) (σ : cS) (x : Int32) : zMet l K A zy_A_has zws_A_has 0 [.ref (G 2), .int x] (cW K G σ) (cW K G σ) (some (.int (nI (cHas (cA_opened σ) x)))) := by
  refine z_entry (by decide) (Nat.le_of_ble_eq_true rfl) ?_
  intro p e s m below meth c ls X hr hml hlocks hP hl
  have hS : va_S A s.heap s.heap [] := va_S.rf
  have hl : lv_has ls 2 [(0, .ref (G 2)), (1, .int x)] := hl
  refine lv_iload_n X.1 X.2.1 zd_A_has_0 rfl (lv_at hl 1 rfl) ?_
  refine lv_if_lt (tgt := 16) X.1 X.2.1 zd_A_has_1 (by decide) (fun c1 => ?_) (fun c1 => ?_)
  · refine lv_iconst (v := nI 0) X.1 X.2.1 zd_A_has_16 (by decide) ?_
    exact z_zret X.1 X.2.1 hr hlocks (Or.inl rfl) (by simp [cHas, *]) rfl hP hS zd_A_has_17
  · refine lv_iload_n X.1 X.2.1 zd_A_has_4 rfl (lv_at hl 1 rfl) ?_
    refine lv_aload_n X.1 X.2.1 zd_A_has_5 rfl (lv_at hl 0 rfl) ?_
    refine g_cA_opened X hP zd_A_has_6 ?_
    refine lv_icmp_ge (tgt := 16) X.1 X.2.1 zd_A_has_9 (by decide) (fun c2 => ?_) (fun c2 => ?_)
    · refine lv_iconst (v := nI 0) X.1 X.2.1 zd_A_has_16 (by decide) ?_
      exact z_zret X.1 X.2.1 hr hlocks (Or.inl rfl) (by simp [cHas, *]) rfl hP hS zd_A_has_17
    · refine lv_iconst (v := nI 1) X.1 X.2.1 zd_A_has_12 (by decide) ?_
      refine lv_goto (tgt := 17) X.1 X.2.1 zd_A_has_13 (by decide) ?_
      exact z_zret X.1 X.2.1 hr hlocks (Or.inr rfl) (by simp [cHas, *]) rfl hP hS zd_A_has_17

set_option maxHeartbeats 4000000 in
set_option maxRecDepth 100000 in
/-- Targets.end(n) -/
theorem k_T_end (l : Launch) (K : zK) (G : Nat → Nat) (A : Nat → Prop) (hD : ∀ σ, va_D A (cW K G σ)) (σ : cS) (n : Nat) (hn : n < 20) : zMet l K A zy_T_end zws_T_end 0 [.ref (G 1), .int (nI n)] (cW K G σ) (cW K G σ) (some (.int (nI (cT_ends σ n)))) := by
  refine z_entry (by decide) (Nat.le_of_ble_eq_true rfl) ?_
  intro p e s m below meth c ls X hr hml hlocks hP hl
  have hS : va_S A s.heap s.heap [] := va_S.rf
  have hl : lv_has ls 2 [(0, .ref (G 1)), (1, .int (nI n))] := hl
  refine lv_aload_n X.1 X.2.1 zd_T_end_0 rfl (lv_at hl 0 rfl) ?_
  refine g_cT_ends X hP zd_T_end_1 ?_
  refine lv_iload_n X.1 X.2.1 zd_T_end_4 rfl (lv_at hl 1 rfl) ?_
  refine l_cT_ends X hP (by omega) zd_T_end_5 ?_
  exact z_iret X.1 X.2.1 hr hlocks rfl rfl hP hS zd_T_end_6

set_option maxHeartbeats 4000000 in
set_option maxRecDepth 100000 in
/-- Targets.isAlias(n) -/
theorem k_T_isAlias (l : Launch) (K : zK) (G : Nat → Nat) (A : Nat → Prop) (hD : ∀ σ, va_D A (cW K G σ)) (σ : cS) (n : Nat) (hn : n < 20) (he : cT_ends σ n < 20) : zMet l K A zy_T_isAlias zws_T_isAlias 0 [.ref (G 1), .int (nI n)] (cW K G σ) (cW K G σ) (some (.int (nI (if cT_ends σ n = n then 0 else 1)))) := by
  refine z_entry (by decide) (Nat.le_of_ble_eq_true rfl) ?_
  intro p e s m below meth c ls X hr hml hlocks hP hl
  have hS : va_S A s.heap s.heap [] := va_S.rf
  have hl : lv_has ls 2 [(0, .ref (G 1)), (1, .int (nI n))] := hl
  refine lv_aload_n X.1 X.2.1 zd_T_isAlias_0 rfl (lv_at hl 0 rfl) ?_
  refine g_cT_ends X hP zd_T_isAlias_1 ?_
  refine lv_iload_n X.1 X.2.1 zd_T_isAlias_4 rfl (lv_at hl 1 rfl) ?_
  refine l_cT_ends X hP (by omega) zd_T_isAlias_5 ?_
  refine lv_iload_n X.1 X.2.1 zd_T_isAlias_6 rfl (lv_at hl 1 rfl) ?_
  refine lv_icmp_eq (tgt := 14) X.1 X.2.1 zd_T_isAlias_7 (by decide) (fun c1 => ?_) (fun c1 => ?_)
  · rw [nI_eq (by omega) (by omega)] at c1
    refine lv_iconst (v := nI 0) X.1 X.2.1 zd_T_isAlias_14 (by decide) ?_
    exact z_zret X.1 X.2.1 hr hlocks (Or.inl rfl) (by simp [*]) rfl hP hS zd_T_isAlias_15
  · rw [nI_eq (by omega) (by omega)] at c1
    refine lv_iconst (v := nI 1) X.1 X.2.1 zd_T_isAlias_10 (by decide) ?_
    refine lv_goto (tgt := 15) X.1 X.2.1 zd_T_isAlias_11 (by decide) ?_
    exact z_zret X.1 X.2.1 hr hlocks (Or.inr rfl) (by simp [*]) rfl hP hS zd_T_isAlias_15

set_option maxHeartbeats 4000000 in
set_option maxRecDepth 100000 in
/-- Targets.leadsTo(n, o) -/
theorem k_T_leadsTo (l : Launch) (K : zK) (G : Nat → Nat) (A : Nat → Prop) (hD : ∀ σ, va_D A (cW K G σ)) (σ : cS) (n o : Nat) (hn : n < 20) : zMet l K A zy_T_leadsTo zws_T_leadsTo 0 [.ref (G 1), .int (nI n), .int (nI o)] (cW K G σ) (cW K G σ) (some (.int (nI (cLead (cT_reached σ n) o)))) := by
  refine z_entry (by decide) (Nat.le_of_ble_eq_true rfl) ?_
  intro p e s m below meth c ls X hr hml hlocks hP hl
  have hS : va_S A s.heap s.heap [] := va_S.rf
  have hl : lv_has ls 3 [(0, .ref (G 1)), (1, .int (nI n)), (2, .int (nI o))] := hl
  refine lv_aload_n X.1 X.2.1 zd_T_leadsTo_0 rfl (lv_at hl 0 rfl) ?_
  refine g_cT_reached X hP zd_T_leadsTo_1 ?_
  refine lv_iload_n X.1 X.2.1 zd_T_leadsTo_4 rfl (lv_at hl 1 rfl) ?_
  refine l_cT_reached X hP (by omega) zd_T_leadsTo_5 ?_
  refine lv_iload_n X.1 X.2.1 zd_T_leadsTo_6 rfl (lv_at hl 2 rfl) ?_
  refine lv_ishr X.1 X.2.1 zd_T_leadsTo_7 ?_
  refine lv_iconst (v := nI 1) X.1 X.2.1 zd_T_leadsTo_8 (by decide) ?_
  refine lv_iand X.1 X.2.1 zd_T_leadsTo_9 ?_
  refine lv_if_eq (tgt := 17) X.1 X.2.1 zd_T_leadsTo_10 (by decide) (fun c1 => ?_) (fun c1 => ?_)
  · refine lv_iconst (v := nI 0) X.1 X.2.1 zd_T_leadsTo_17 (by decide) ?_
    exact z_zret X.1 X.2.1 hr hlocks (Or.inl rfl) (by simp [cLead, *]) rfl hP hS zd_T_leadsTo_18
  · refine lv_iconst (v := nI 1) X.1 X.2.1 zd_T_leadsTo_13 (by decide) ?_
    refine lv_goto (tgt := 18) X.1 X.2.1 zd_T_leadsTo_14 (by decide) ?_
    exact z_zret X.1 X.2.1 hr hlocks (Or.inr rfl) (by simp [cLead, *]) rfl hP hS zd_T_leadsTo_18

set_option maxHeartbeats 4000000 in
set_option maxRecDepth 100000 in
/-- Targets.rowLength(n, a) -/
theorem k_T_rowLength (l : Launch) (K : zK) (G : Nat → Nat) (A : Nat → Prop) (hD : ∀ σ, va_D A (cW K G σ)) (σ : cS) (n a : Nat) (hn : n < 20) (ha : a < 3) : zMet l K A zy_T_rowLength zws_T_rowLength 0 [.ref (G 1), .int (nI n), .int (nI a)] (cW K G σ) (cW K G σ) (some (.int (nI (cT_rowLengths σ (n * 3 + a))))) := by
  refine z_entry (by decide) (Nat.le_of_ble_eq_true rfl) ?_
  intro p e s m below meth c ls X hr hml hlocks hP hl
  have hS : va_S A s.heap s.heap [] := va_S.rf
  have hl : lv_has ls 3 [(0, .ref (G 1)), (1, .int (nI n)), (2, .int (nI a))] := hl
  refine lv_aload_n X.1 X.2.1 zd_T_rowLength_0 rfl (lv_at hl 0 rfl) ?_
  refine g_cT_rowLengths X hP zd_T_rowLength_1 ?_
  refine lv_iload_n X.1 X.2.1 zd_T_rowLength_4 rfl (lv_at hl 1 rfl) ?_
  refine lv_iconst (v := nI 3) X.1 X.2.1 zd_T_rowLength_5 (by decide) ?_
  refine lv_imul X.1 X.2.1 zd_T_rowLength_6 ?_
  refine z_top (pk_mul _ _) ?_
  refine lv_iload_n X.1 X.2.1 zd_T_rowLength_7 rfl (lv_at hl 2 rfl) ?_
  refine lv_iadd X.1 X.2.1 zd_T_rowLength_8 ?_
  refine z_top (nI_add _ _) ?_
  refine l_cT_rowLengths X hP (by omega) zd_T_rowLength_9 ?_
  exact z_iret X.1 X.2.1 hr hlocks rfl rfl hP hS zd_T_rowLength_10

set_option maxHeartbeats 4000000 in
set_option maxRecDepth 100000 in
/-- Targets.rowAt(n, a, i) -/
theorem k_T_rowAt (l : Launch) (K : zK) (G : Nat → Nat) (A : Nat → Prop) (hD : ∀ σ, va_D A (cW K G σ)) (σ : cS) (n a i : Nat) (hn : n < 20) (ha : a < 3) (hi : i < 4) : zMet l K A zy_T_rowAt zws_T_rowAt 0 [.ref (G 1), .int (nI n), .int (nI a), .int (nI i)] (cW K G σ) (cW K G σ) (some (.int (nI (cT_rows σ ((n * 3 + a) * 4 + i))))) := by
  refine z_entry (by decide) (Nat.le_of_ble_eq_true rfl) ?_
  intro p e s m below meth c ls X hr hml hlocks hP hl
  have hS : va_S A s.heap s.heap [] := va_S.rf
  have hl : lv_has ls 4 [(0, .ref (G 1)), (1, .int (nI n)), (2, .int (nI a)), (3, .int (nI i))] := hl
  refine lv_aload_n X.1 X.2.1 zd_T_rowAt_0 rfl (lv_at hl 0 rfl) ?_
  refine g_cT_rows X hP zd_T_rowAt_1 ?_
  refine lv_iload_n X.1 X.2.1 zd_T_rowAt_4 rfl (lv_at hl 1 rfl) ?_
  refine lv_iconst (v := nI 3) X.1 X.2.1 zd_T_rowAt_5 (by decide) ?_
  refine lv_imul X.1 X.2.1 zd_T_rowAt_6 ?_
  refine z_top (pk_mul _ _) ?_
  refine lv_iload_n X.1 X.2.1 zd_T_rowAt_7 rfl (lv_at hl 2 rfl) ?_
  refine lv_iadd X.1 X.2.1 zd_T_rowAt_8 ?_
  refine z_top (nI_add _ _) ?_
  refine lv_iconst (v := nI 4) X.1 X.2.1 zd_T_rowAt_9 (by decide) ?_
  refine lv_imul X.1 X.2.1 zd_T_rowAt_10 ?_
  refine z_top (pk_mul _ _) ?_
  refine lv_iload_n X.1 X.2.1 zd_T_rowAt_11 rfl (lv_at hl 3 rfl) ?_
  refine lv_iadd X.1 X.2.1 zd_T_rowAt_12 ?_
  refine z_top (nI_add _ _) ?_
  refine l_cT_rows X hP (by omega) zd_T_rowAt_13 ?_
  exact z_iret X.1 X.2.1 hr hlocks rfl rfl hP hS zd_T_rowAt_14

set_option maxHeartbeats 4000000 in
set_option maxRecDepth 100000 in
/-- Targets.valueOf(n) -/
theorem k_T_valueOf (l : Launch) (K : zK) (G : Nat → Nat) (A : Nat → Prop) (hD : ∀ σ, va_D A (cW K G σ)) (σ : cS) (n : Nat) (hn : n < 20) : zMet l K A zy_T_valueOf zws_T_valueOf 0 [.ref (G 1), .int (nI n)] (cW K G σ) (cW K G σ) (some (.long (cT_values σ n))) := by
  refine z_entry (by decide) (Nat.le_of_ble_eq_true rfl) ?_
  intro p e s m below meth c ls X hr hml hlocks hP hl
  have hS : va_S A s.heap s.heap [] := va_S.rf
  have hl : lv_has ls 2 [(0, .ref (G 1)), (1, .int (nI n))] := hl
  refine lv_aload_n X.1 X.2.1 zd_T_valueOf_0 rfl (lv_at hl 0 rfl) ?_
  refine g_cT_values X hP zd_T_valueOf_1 ?_
  refine lv_iload_n X.1 X.2.1 zd_T_valueOf_4 rfl (lv_at hl 1 rfl) ?_
  refine l_cT_values X hP (by omega) zd_T_valueOf_5 ?_
  exact z_lret X.1 X.2.1 hr hlocks rfl rfl hP hS zd_T_valueOf_6

set_option maxHeartbeats 4000000 in
set_option maxRecDepth 100000 in
/-- Targets.providersOf(n) -/
theorem k_T_providersOf (l : Launch) (K : zK) (G : Nat → Nat) (A : Nat → Prop) (hD : ∀ σ, va_D A (cW K G σ)) (σ : cS) (n : Nat) (hn : n < 20) : zMet l K A zy_T_providersOf zws_T_providersOf 0 [.ref (G 1), .int (nI n)] (cW K G σ) (cW K G σ) (some (.int (cT_providers σ n))) := by
  refine z_entry (by decide) (Nat.le_of_ble_eq_true rfl) ?_
  intro p e s m below meth c ls X hr hml hlocks hP hl
  have hS : va_S A s.heap s.heap [] := va_S.rf
  have hl : lv_has ls 2 [(0, .ref (G 1)), (1, .int (nI n))] := hl
  refine lv_aload_n X.1 X.2.1 zd_T_providersOf_0 rfl (lv_at hl 0 rfl) ?_
  refine g_cT_providers X hP zd_T_providersOf_1 ?_
  refine lv_iload_n X.1 X.2.1 zd_T_providersOf_4 rfl (lv_at hl 1 rfl) ?_
  refine l_cT_providers X hP (by omega) zd_T_providersOf_5 ?_
  exact z_iret X.1 X.2.1 hr hlocks rfl rfl hP hS zd_T_providersOf_6

set_option maxHeartbeats 4000000 in
set_option maxRecDepth 100000 in
/-- Aspects.leadsTo(n, o) -/
theorem k_A_leadsTo (l : Launch) (K : zK) (G : Nat → Nat) (A : Nat → Prop) (hD : ∀ σ, va_D A (cW K G σ)) (σ : cS) (n o : Nat) (hn : n < 8) : zMet l K A zy_A_leadsTo zws_A_leadsTo 0 [.ref (G 2), .int (nI n), .int (nI o)] (cW K G σ) (cW K G σ) (some (.int (nI (cLead (cA_reached σ n) o)))) := by
  refine z_entry (by decide) (Nat.le_of_ble_eq_true rfl) ?_
  intro p e s m below meth c ls X hr hml hlocks hP hl
  have hS : va_S A s.heap s.heap [] := va_S.rf
  have hl : lv_has ls 3 [(0, .ref (G 2)), (1, .int (nI n)), (2, .int (nI o))] := hl
  refine lv_aload_n X.1 X.2.1 zd_A_leadsTo_0 rfl (lv_at hl 0 rfl) ?_
  refine g_cA_reached X hP zd_A_leadsTo_1 ?_
  refine lv_iload_n X.1 X.2.1 zd_A_leadsTo_4 rfl (lv_at hl 1 rfl) ?_
  refine l_cA_reached X hP (by omega) zd_A_leadsTo_5 ?_
  refine lv_iload_n X.1 X.2.1 zd_A_leadsTo_6 rfl (lv_at hl 2 rfl) ?_
  refine lv_ishr X.1 X.2.1 zd_A_leadsTo_7 ?_
  refine lv_iconst (v := nI 1) X.1 X.2.1 zd_A_leadsTo_8 (by decide) ?_
  refine lv_iand X.1 X.2.1 zd_A_leadsTo_9 ?_
  refine lv_if_eq (tgt := 17) X.1 X.2.1 zd_A_leadsTo_10 (by decide) (fun c1 => ?_) (fun c1 => ?_)
  · refine lv_iconst (v := nI 0) X.1 X.2.1 zd_A_leadsTo_17 (by decide) ?_
    exact z_zret X.1 X.2.1 hr hlocks (Or.inl rfl) (by simp [cLead, *]) rfl hP hS zd_A_leadsTo_18
  · refine lv_iconst (v := nI 1) X.1 X.2.1 zd_A_leadsTo_13 (by decide) ?_
    refine lv_goto (tgt := 18) X.1 X.2.1 zd_A_leadsTo_14 (by decide) ?_
    exact z_zret X.1 X.2.1 hr hlocks (Or.inr rfl) (by simp [cLead, *]) rfl hP hS zd_A_leadsTo_18

set_option maxHeartbeats 4000000 in
set_option maxRecDepth 100000 in
/-- Aspects.needCount(n) -/
theorem k_A_needCount (l : Launch) (K : zK) (G : Nat → Nat) (A : Nat → Prop) (hD : ∀ σ, va_D A (cW K G σ)) (σ : cS) (n : Nat) (hn : n < 8) : zMet l K A zy_A_needCount zws_A_needCount 0 [.ref (G 2), .int (nI n)] (cW K G σ) (cW K G σ) (some (.int (nI (cA_needCounts σ n)))) := by
  refine z_entry (by decide) (Nat.le_of_ble_eq_true rfl) ?_
  intro p e s m below meth c ls X hr hml hlocks hP hl
  have hS : va_S A s.heap s.heap [] := va_S.rf
  have hl : lv_has ls 2 [(0, .ref (G 2)), (1, .int (nI n))] := hl
  refine lv_aload_n X.1 X.2.1 zd_A_needCount_0 rfl (lv_at hl 0 rfl) ?_
  refine g_cA_needCounts X hP zd_A_needCount_1 ?_
  refine lv_iload_n X.1 X.2.1 zd_A_needCount_4 rfl (lv_at hl 1 rfl) ?_
  refine l_cA_needCounts X hP (by omega) zd_A_needCount_5 ?_
  exact z_iret X.1 X.2.1 hr hlocks rfl rfl hP hS zd_A_needCount_6

set_option maxHeartbeats 4000000 in
set_option maxRecDepth 100000 in
/-- Aspects.needAt(n, i) -/
theorem k_A_needAt (l : Launch) (K : zK) (G : Nat → Nat) (A : Nat → Prop) (hD : ∀ σ, va_D A (cW K G σ)) (σ : cS) (n i : Nat) (hn : n < 8) (hi : i < 3) : zMet l K A zy_A_needAt zws_A_needAt 0 [.ref (G 2), .int (nI n), .int (nI i)] (cW K G σ) (cW K G σ) (some (.int (nI (cA_needs σ (n * 3 + i))))) := by
  refine z_entry (by decide) (Nat.le_of_ble_eq_true rfl) ?_
  intro p e s m below meth c ls X hr hml hlocks hP hl
  have hS : va_S A s.heap s.heap [] := va_S.rf
  have hl : lv_has ls 3 [(0, .ref (G 2)), (1, .int (nI n)), (2, .int (nI i))] := hl
  refine lv_aload_n X.1 X.2.1 zd_A_needAt_0 rfl (lv_at hl 0 rfl) ?_
  refine g_cA_needs X hP zd_A_needAt_1 ?_
  refine lv_iload_n X.1 X.2.1 zd_A_needAt_4 rfl (lv_at hl 1 rfl) ?_
  refine lv_iconst (v := nI 3) X.1 X.2.1 zd_A_needAt_5 (by decide) ?_
  refine lv_imul X.1 X.2.1 zd_A_needAt_6 ?_
  refine z_top (pk_mul _ _) ?_
  refine lv_iload_n X.1 X.2.1 zd_A_needAt_7 rfl (lv_at hl 2 rfl) ?_
  refine lv_iadd X.1 X.2.1 zd_A_needAt_8 ?_
  refine z_top (nI_add _ _) ?_
  refine l_cA_needs X hP (by omega) zd_A_needAt_9 ?_
  exact z_iret X.1 X.2.1 hr hlocks rfl rfl hP hS zd_A_needAt_10

set_option maxHeartbeats 4000000 in
set_option maxRecDepth 100000 in
/-- Aspects.goesAlong(n, a) -/
theorem k_A_goesAlong (l : Launch) (K : zK) (G : Nat → Nat) (A : Nat → Prop) (hD : ∀ σ, va_D A (cW K G σ)) (σ : cS) (n a : Nat) (hn : n < 8) : zMet l K A zy_A_goesAlong zws_A_goesAlong 0 [.ref (G 2), .int (nI n), .int (nI a)] (cW K G σ) (cW K G σ) (some (.int (nI (cLead (cA_alongs σ n) a)))) := by
  refine z_entry (by decide) (Nat.le_of_ble_eq_true rfl) ?_
  intro p e s m below meth c ls X hr hml hlocks hP hl
  have hS : va_S A s.heap s.heap [] := va_S.rf
  have hl : lv_has ls 3 [(0, .ref (G 2)), (1, .int (nI n)), (2, .int (nI a))] := hl
  refine lv_aload_n X.1 X.2.1 zd_A_goesAlong_0 rfl (lv_at hl 0 rfl) ?_
  refine g_cA_alongs X hP zd_A_goesAlong_1 ?_
  refine lv_iload_n X.1 X.2.1 zd_A_goesAlong_4 rfl (lv_at hl 1 rfl) ?_
  refine l_cA_alongs X hP (by omega) zd_A_goesAlong_5 ?_
  refine lv_iload_n X.1 X.2.1 zd_A_goesAlong_6 rfl (lv_at hl 2 rfl) ?_
  refine lv_ishr X.1 X.2.1 zd_A_goesAlong_7 ?_
  refine lv_iconst (v := nI 1) X.1 X.2.1 zd_A_goesAlong_8 (by decide) ?_
  refine lv_iand X.1 X.2.1 zd_A_goesAlong_9 ?_
  refine lv_if_eq (tgt := 17) X.1 X.2.1 zd_A_goesAlong_10 (by decide) (fun c1 => ?_) (fun c1 => ?_)
  · refine lv_iconst (v := nI 0) X.1 X.2.1 zd_A_goesAlong_17 (by decide) ?_
    exact z_zret X.1 X.2.1 hr hlocks (Or.inl rfl) (by simp [cLead, *]) rfl hP hS zd_A_goesAlong_18
  · refine lv_iconst (v := nI 1) X.1 X.2.1 zd_A_goesAlong_13 (by decide) ?_
    refine lv_goto (tgt := 18) X.1 X.2.1 zd_A_goesAlong_14 (by decide) ?_
    exact z_zret X.1 X.2.1 hr hlocks (Or.inr rfl) (by simp [cLead, *]) rfl hP hS zd_A_goesAlong_18

set_option maxHeartbeats 4000000 in
set_option maxRecDepth 100000 in
/-- Aspects.kindOf(n) -/
theorem k_A_kindOf (l : Launch) (K : zK) (G : Nat → Nat) (A : Nat → Prop) (hD : ∀ σ, va_D A (cW K G σ)) (σ : cS) (n : Nat) (hn : n < 8) : zMet l K A zy_A_kindOf zws_A_kindOf 0 [.ref (G 2), .int (nI n)] (cW K G σ) (cW K G σ) (some (.int (nI (cA_kinds σ n)))) := by
  refine z_entry (by decide) (Nat.le_of_ble_eq_true rfl) ?_
  intro p e s m below meth c ls X hr hml hlocks hP hl
  have hS : va_S A s.heap s.heap [] := va_S.rf
  have hl : lv_has ls 2 [(0, .ref (G 2)), (1, .int (nI n))] := hl
  refine lv_aload_n X.1 X.2.1 zd_A_kindOf_0 rfl (lv_at hl 0 rfl) ?_
  refine g_cA_kinds X hP zd_A_kindOf_1 ?_
  refine lv_iload_n X.1 X.2.1 zd_A_kindOf_4 rfl (lv_at hl 1 rfl) ?_
  refine l_cA_kinds X hP (by omega) zd_A_kindOf_5 ?_
  exact z_iret X.1 X.2.1 hr hlocks rfl rfl hP hS zd_A_kindOf_6

set_option maxHeartbeats 4000000 in
set_option maxRecDepth 100000 in
/-- Aspects.wantsOf(n) -/
theorem k_A_wantsOf (l : Launch) (K : zK) (G : Nat → Nat) (A : Nat → Prop) (hD : ∀ σ, va_D A (cW K G σ)) (σ : cS) (n : Nat) (hn : n < 8) : zMet l K A zy_A_wantsOf zws_A_wantsOf 0 [.ref (G 2), .int (nI n)] (cW K G σ) (cW K G σ) (some (.int (cA_wants σ n))) := by
  refine z_entry (by decide) (Nat.le_of_ble_eq_true rfl) ?_
  intro p e s m below meth c ls X hr hml hlocks hP hl
  have hS : va_S A s.heap s.heap [] := va_S.rf
  have hl : lv_has ls 2 [(0, .ref (G 2)), (1, .int (nI n))] := hl
  refine lv_aload_n X.1 X.2.1 zd_A_wantsOf_0 rfl (lv_at hl 0 rfl) ?_
  refine g_cA_wants X hP zd_A_wantsOf_1 ?_
  refine lv_iload_n X.1 X.2.1 zd_A_wantsOf_4 rfl (lv_at hl 1 rfl) ?_
  refine l_cA_wants X hP (by omega) zd_A_wantsOf_5 ?_
  exact z_iret X.1 X.2.1 hr hlocks rfl rfl hP hS zd_A_wantsOf_6

set_option maxHeartbeats 4000000 in
set_option maxRecDepth 100000 in
/-- Aspects.givesOf(n) -/
theorem k_A_givesOf (l : Launch) (K : zK) (G : Nat → Nat) (A : Nat → Prop) (hD : ∀ σ, va_D A (cW K G σ)) (σ : cS) (n : Nat) (hn : n < 8) : zMet l K A zy_A_givesOf zws_A_givesOf 0 [.ref (G 2), .int (nI n)] (cW K G σ) (cW K G σ) (some (.int (cA_gives σ n))) := by
  refine z_entry (by decide) (Nat.le_of_ble_eq_true rfl) ?_
  intro p e s m below meth c ls X hr hml hlocks hP hl
  have hS : va_S A s.heap s.heap [] := va_S.rf
  have hl : lv_has ls 2 [(0, .ref (G 2)), (1, .int (nI n))] := hl
  refine lv_aload_n X.1 X.2.1 zd_A_givesOf_0 rfl (lv_at hl 0 rfl) ?_
  refine g_cA_gives X hP zd_A_givesOf_1 ?_
  refine lv_iload_n X.1 X.2.1 zd_A_givesOf_4 rfl (lv_at hl 1 rfl) ?_
  refine l_cA_gives X hP (by omega) zd_A_givesOf_5 ?_
  exact z_iret X.1 X.2.1 hr hlocks rfl rfl hP hS zd_A_givesOf_6

set_option maxHeartbeats 4000000 in
set_option maxRecDepth 100000 in
/-- Aspects.nameOf(n) -/
theorem k_A_nameOf (l : Launch) (K : zK) (G : Nat → Nat) (A : Nat → Prop) (hD : ∀ σ, va_D A (cW K G σ)) (σ : cS) (n : Nat) (hn : n < 8) : zMet l K A zy_A_nameOf zws_A_nameOf 0 [.ref (G 2), .int (nI n)] (cW K G σ) (cW K G σ) (some (.int (cA_names σ n))) := by
  refine z_entry (by decide) (Nat.le_of_ble_eq_true rfl) ?_
  intro p e s m below meth c ls X hr hml hlocks hP hl
  have hS : va_S A s.heap s.heap [] := va_S.rf
  have hl : lv_has ls 2 [(0, .ref (G 2)), (1, .int (nI n))] := hl
  refine lv_aload_n X.1 X.2.1 zd_A_nameOf_0 rfl (lv_at hl 0 rfl) ?_
  refine g_cA_names X hP zd_A_nameOf_1 ?_
  refine lv_iload_n X.1 X.2.1 zd_A_nameOf_4 rfl (lv_at hl 1 rfl) ?_
  refine l_cA_names X hP (by omega) zd_A_nameOf_5 ?_
  exact z_iret X.1 X.2.1 hr hlocks rfl rfl hP hS zd_A_nameOf_6

set_option maxHeartbeats 4000000 in
set_option maxRecDepth 100000 in
/-- Memory.pair(t, a) -/
theorem k_M_pair (l : Launch) (K : zK) (G : Nat → Nat) (A : Nat → Prop) (hD : ∀ σ, va_D A (cW K G σ)) (σ : cS) (t a : Nat) : zMet l K A zy_M_pair zws_M_pair 0 [.int (nI t), .int (nI a)] (cW K G σ) (cW K G σ) (some (.int (nI (t * 8 + a)))) := by
  refine z_entry (by decide) (Nat.le_of_ble_eq_true rfl) ?_
  intro p e s m below meth c ls X hr hml hlocks hP hl
  have hS : va_S A s.heap s.heap [] := va_S.rf
  have hl : lv_has ls 2 [(0, .int (nI t)), (1, .int (nI a))] := hl
  refine lv_iload_n X.1 X.2.1 zd_M_pair_0 rfl (lv_at hl 0 rfl) ?_
  refine lv_bipush (v := nI 8) X.1 X.2.1 zd_M_pair_1 (by decide) ?_
  refine lv_imul X.1 X.2.1 zd_M_pair_3 ?_
  refine z_top (pk_mul _ _) ?_
  refine lv_iload_n X.1 X.2.1 zd_M_pair_4 rfl (lv_at hl 1 rfl) ?_
  refine lv_iadd X.1 X.2.1 zd_M_pair_5 ?_
  refine z_top (nI_add _ _) ?_
  exact z_iret X.1 X.2.1 hr hlocks rfl rfl hP hS zd_M_pair_6

set_option maxHeartbeats 4000000 in
set_option maxRecDepth 100000 in
/-- Memory.known(t, a, k) -/
theorem k_M_known (l : Launch) (K : zK) (G : Nat → Nat) (A : Nat → Prop) (hD : ∀ σ, va_D A (cW K G σ)) (σ : cS) (t a k : Nat) (ht : t < 20) (ha : a < 8) (hk : k < 16) : zMet l K A zy_M_known zws_M_known 1 [.ref (G 3), .int (nI t), .int (nI a), .int (nI k)] (cW K G σ) (cW K G σ) (some (.int (cKnown σ t a k))) := by
  refine z_entry (by decide) (Nat.le_of_ble_eq_true rfl) ?_
  intro p e s m below meth c ls X hr hml hlocks hP hl
  have hS : va_S A s.heap s.heap [] := va_S.rf
  have hl : lv_has ls 5 [(0, .ref (G 3)), (1, .int (nI t)), (2, .int (nI a)), (3, .int (nI k))] := hl
  refine lv_iload_n X.1 X.2.1 zd_M_known_0 rfl (lv_at hl 1 rfl) ?_
  refine lv_iload_n X.1 X.2.1 zd_M_known_1 rfl (lv_at hl 2 rfl) ?_
  refine z_callSi (As := [.int (nI t), .int (nI a)]) (rest := []) X hml (k_M_pair l K G A hD σ t a) (zk_M_37 X.2.2.2.1 (z_rm (by omega) (by decide))) hP hS rfl hl.1 rfl (Nat.le_of_ble_eq_true rfl) zd_M_known_2 ⟨Nat.zero_le _, Nat.zero_le _⟩ (fun H locs hP hS => ?_)
  refine lv_istore (lv' := [(4, .int (nI (t * 8 + a))), (0, .ref (G 3)), (1, .int (nI t)), (2, .int (nI a)), (3, .int (nI k))]) X.1 X.2.1 zd_M_known_5 hl (by decide) rfl (fun ls hl => ?_)
  refine lv_aload_n X.1 X.2.1 zd_M_known_7 rfl (lv_at hl 1 rfl) ?_
  refine g_cM_doneSettings X hP zd_M_known_8 ?_
  refine lv_iload X.1 X.2.1 zd_M_known_11 (lv_at hl 0 rfl) ?_
  refine l_cM_doneSettings X hP (by omega) zd_M_known_13 ?_
  refine lv_iload_n X.1 X.2.1 zd_M_known_14 rfl (lv_at hl 4 rfl) ?_
  refine lv_ishr X.1 X.2.1 zd_M_known_15 ?_
  refine lv_iconst (v := nI 1) X.1 X.2.1 zd_M_known_16 (by decide) ?_
  refine lv_iand X.1 X.2.1 zd_M_known_17 ?_
  refine lv_if_eq (tgt := 23) X.1 X.2.1 zd_M_known_18 (by decide) (fun c1 => ?_) (fun c1 => ?_)
  · refine lv_aload_n X.1 X.2.1 zd_M_known_23 rfl (lv_at hl 1 rfl) ?_
    refine g_cM_passedSettings X hP zd_M_known_24 ?_
    refine lv_iload X.1 X.2.1 zd_M_known_27 (lv_at hl 0 rfl) ?_
    refine l_cM_passedSettings X hP (by omega) zd_M_known_29 ?_
    refine lv_iload_n X.1 X.2.1 zd_M_known_30 rfl (lv_at hl 4 rfl) ?_
    refine lv_ishr X.1 X.2.1 zd_M_known_31 ?_
    refine lv_iconst (v := nI 1) X.1 X.2.1 zd_M_known_32 (by decide) ?_
    refine lv_iand X.1 X.2.1 zd_M_known_33 ?_
    refine lv_if_eq (tgt := 41) X.1 X.2.1 zd_M_known_34 (by decide) (fun c2 => ?_) (fun c2 => ?_)
    · refine lv_iconst (v := -1) X.1 X.2.1 zd_M_known_41 (by decide) ?_
      exact z_iret X.1 X.2.1 hr hlocks (by simp [cKnown, *]) rfl hP hS zd_M_known_42
    · refine lv_iconst (v := nI 0) X.1 X.2.1 zd_M_known_37 (by decide) ?_
      refine lv_goto (tgt := 42) X.1 X.2.1 zd_M_known_38 (by decide) ?_
      exact z_iret X.1 X.2.1 hr hlocks (by simp [cKnown, *]) rfl hP hS zd_M_known_42
  · refine lv_iconst (v := nI 1) X.1 X.2.1 zd_M_known_21 (by decide) ?_
    exact z_iret X.1 X.2.1 hr hlocks (by simp [cKnown, *]) rfl hP hS zd_M_known_22

set_option maxHeartbeats 4000000 in
set_option maxRecDepth 100000 in
/-- Memory.resultOf(t, a, k) -/
theorem k_M_resultOf (l : Launch) (K : zK) (G : Nat → Nat) (A : Nat → Prop) (hD : ∀ σ, va_D A (cW K G σ)) (σ : cS) (t a k : Nat) (ht : t < 20) (ha : a < 8) (hk : k < 16) : zMet l K A zy_M_resultOf zws_M_resultOf 1 [.ref (G 3), .int (nI t), .int (nI a), .int (nI k)] (cW K G σ) (cW K G σ) (some (.long (cM_results σ ((t * 8 + a) * 16 + k)))) := by
  refine z_entry (by decide) (Nat.le_of_ble_eq_true rfl) ?_
  intro p e s m below meth c ls X hr hml hlocks hP hl
  have hS : va_S A s.heap s.heap [] := va_S.rf
  have hl : lv_has ls 4 [(0, .ref (G 3)), (1, .int (nI t)), (2, .int (nI a)), (3, .int (nI k))] := hl
  refine lv_aload_n X.1 X.2.1 zd_M_resultOf_0 rfl (lv_at hl 0 rfl) ?_
  refine g_cM_results X hP zd_M_resultOf_1 ?_
  refine lv_iload_n X.1 X.2.1 zd_M_resultOf_4 rfl (lv_at hl 1 rfl) ?_
  refine lv_iload_n X.1 X.2.1 zd_M_resultOf_5 rfl (lv_at hl 2 rfl) ?_
  refine z_callSi (As := [.int (nI t), .int (nI a)]) (rest := [.ref (G 22)]) X hml (k_M_pair l K G A hD σ t a) (zk_M_37 X.2.2.2.1 (z_rm (by omega) (by decide))) hP hS rfl hl.1 rfl (Nat.le_of_ble_eq_true rfl) zd_M_resultOf_6 ⟨Nat.zero_le _, Nat.zero_le _⟩ (fun H locs hP hS => ?_)
  refine lv_bipush (v := nI 16) X.1 X.2.1 zd_M_resultOf_9 (by decide) ?_
  refine lv_imul X.1 X.2.1 zd_M_resultOf_11 ?_
  refine z_top (pk_mul _ _) ?_
  refine lv_iload_n X.1 X.2.1 zd_M_resultOf_12 rfl (lv_at hl 3 rfl) ?_
  refine lv_iadd X.1 X.2.1 zd_M_resultOf_13 ?_
  refine z_top (nI_add _ _) ?_
  refine l_cM_results X hP (by omega) zd_M_resultOf_14 ?_
  exact z_lret X.1 X.2.1 hr hlocks rfl rfl hP hS zd_M_resultOf_15

set_option maxHeartbeats 4000000 in
set_option maxRecDepth 100000 in
/-- Memory.timesDone(t, a) -/
theorem k_M_timesDone (l : Launch) (K : zK) (G : Nat → Nat) (A : Nat → Prop) (hD : ∀ σ, va_D A (cW K G σ)) (σ : cS) (t a : Nat) (ht : t < 20) (ha : a < 8) : zMet l K A zy_M_timesDone zws_M_timesDone 1 [.ref (G 3), .int (nI t), .int (nI a)] (cW K G σ) (cW K G σ) (some (.int (cM_doneTimes σ (t * 8 + a)))) := by
  refine z_entry (by decide) (Nat.le_of_ble_eq_true rfl) ?_
  intro p e s m below meth c ls X hr hml hlocks hP hl
  have hS : va_S A s.heap s.heap [] := va_S.rf
  have hl : lv_has ls 3 [(0, .ref (G 3)), (1, .int (nI t)), (2, .int (nI a))] := hl
  refine lv_aload_n X.1 X.2.1 zd_M_timesDone_0 rfl (lv_at hl 0 rfl) ?_
  refine g_cM_doneTimes X hP zd_M_timesDone_1 ?_
  refine lv_iload_n X.1 X.2.1 zd_M_timesDone_4 rfl (lv_at hl 1 rfl) ?_
  refine lv_iload_n X.1 X.2.1 zd_M_timesDone_5 rfl (lv_at hl 2 rfl) ?_
  refine z_callSi (As := [.int (nI t), .int (nI a)]) (rest := [.ref (G 21)]) X hml (k_M_pair l K G A hD σ t a) (zk_M_37 X.2.2.2.1 (z_rm (by omega) (by decide))) hP hS rfl hl.1 rfl (Nat.le_of_ble_eq_true rfl) zd_M_timesDone_6 ⟨Nat.zero_le _, Nat.zero_le _⟩ (fun H locs hP hS => ?_)
  refine l_cM_doneTimes X hP (by omega) zd_M_timesDone_9 ?_
  exact z_iret X.1 X.2.1 hr hlocks rfl rfl hP hS zd_M_timesDone_10

set_option maxHeartbeats 4000000 in
set_option maxRecDepth 100000 in
/-- Memory.doneCount() -/
theorem k_M_doneCount (l : Launch) (K : zK) (G : Nat → Nat) (A : Nat → Prop) (hD : ∀ σ, va_D A (cW K G σ)) (σ : cS)  : zMet l K A zy_M_doneCount zws_M_doneCount 0 [.ref (G 3)] (cW K G σ) (cW K G σ) (some (.int (cM_nowDone σ))) := by
  refine z_entry (by decide) (Nat.le_of_ble_eq_true rfl) ?_
  intro p e s m below meth c ls X hr hml hlocks hP hl
  have hS : va_S A s.heap s.heap [] := va_S.rf
  have hl : lv_has ls 1 [(0, .ref (G 3))] := hl
  refine lv_aload_n X.1 X.2.1 zd_M_doneCount_0 rfl (lv_at hl 0 rfl) ?_
  refine g_cM_nowDone X hP zd_M_doneCount_1 ?_
  exact z_iret X.1 X.2.1 hr hlocks rfl rfl hP hS zd_M_doneCount_4

set_option maxHeartbeats 4000000 in
set_option maxRecDepth 100000 in
/-- Memory.makerOf(t, n) -/
theorem k_M_makerOf (l : Launch) (K : zK) (G : Nat → Nat) (A : Nat → Prop) (hD : ∀ σ, va_D A (cW K G σ)) (σ : cS) (t n : Nat) (ht : t < 20) (hn : n < 10) : zMet l K A zy_M_makerOf zws_M_makerOf 0 [.ref (G 3), .int (nI t), .int (nI n)] (cW K G σ) (cW K G σ) (some (.int (cM_makers σ (t * 10 + n)))) := by
  refine z_entry (by decide) (Nat.le_of_ble_eq_true rfl) ?_
  intro p e s m below meth c ls X hr hml hlocks hP hl
  have hS : va_S A s.heap s.heap [] := va_S.rf
  have hl : lv_has ls 3 [(0, .ref (G 3)), (1, .int (nI t)), (2, .int (nI n))] := hl
  refine lv_aload_n X.1 X.2.1 zd_M_makerOf_0 rfl (lv_at hl 0 rfl) ?_
  refine g_cM_makers X hP zd_M_makerOf_1 ?_
  refine lv_iload_n X.1 X.2.1 zd_M_makerOf_4 rfl (lv_at hl 1 rfl) ?_
  refine lv_bipush (v := nI 10) X.1 X.2.1 zd_M_makerOf_5 (by decide) ?_
  refine lv_imul X.1 X.2.1 zd_M_makerOf_7 ?_
  refine z_top (pk_mul _ _) ?_
  refine lv_iload_n X.1 X.2.1 zd_M_makerOf_8 rfl (lv_at hl 2 rfl) ?_
  refine lv_iadd X.1 X.2.1 zd_M_makerOf_9 ?_
  refine z_top (nI_add _ _) ?_
  refine l_cM_makers X hP (by omega) zd_M_makerOf_10 ?_
  exact z_iret X.1 X.2.1 hr hlocks rfl rfl hP hS zd_M_makerOf_11

set_option maxHeartbeats 4000000 in
set_option maxRecDepth 100000 in
/-- Memory.makerSettingOf(t, n) -/
theorem k_M_makerSettingOf (l : Launch) (K : zK) (G : Nat → Nat) (A : Nat → Prop) (hD : ∀ σ, va_D A (cW K G σ)) (σ : cS) (t n : Nat) (ht : t < 20) (hn : n < 10) : zMet l K A zy_M_makerSettingOf zws_M_makerSettingOf 0 [.ref (G 3), .int (nI t), .int (nI n)] (cW K G σ) (cW K G σ) (some (.int (nI (cM_makerSettings σ (t * 10 + n))))) := by
  refine z_entry (by decide) (Nat.le_of_ble_eq_true rfl) ?_
  intro p e s m below meth c ls X hr hml hlocks hP hl
  have hS : va_S A s.heap s.heap [] := va_S.rf
  have hl : lv_has ls 3 [(0, .ref (G 3)), (1, .int (nI t)), (2, .int (nI n))] := hl
  refine lv_aload_n X.1 X.2.1 zd_M_makerSettingOf_0 rfl (lv_at hl 0 rfl) ?_
  refine g_cM_makerSettings X hP zd_M_makerSettingOf_1 ?_
  refine lv_iload_n X.1 X.2.1 zd_M_makerSettingOf_4 rfl (lv_at hl 1 rfl) ?_
  refine lv_bipush (v := nI 10) X.1 X.2.1 zd_M_makerSettingOf_5 (by decide) ?_
  refine lv_imul X.1 X.2.1 zd_M_makerSettingOf_7 ?_
  refine z_top (pk_mul _ _) ?_
  refine lv_iload_n X.1 X.2.1 zd_M_makerSettingOf_8 rfl (lv_at hl 2 rfl) ?_
  refine lv_iadd X.1 X.2.1 zd_M_makerSettingOf_9 ?_
  refine z_top (nI_add _ _) ?_
  refine l_cM_makerSettings X hP (by omega) zd_M_makerSettingOf_10 ?_
  exact z_iret X.1 X.2.1 hr hlocks rfl rfl hP hS zd_M_makerSettingOf_11

def cKeepPassed (σ : cS) (t a k : Nat) : cS := p_cM_passedSettings σ (upd (cM_passedSettings σ) (t * 8 + a) (cM_passedSettings σ (t * 8 + a) ||| (nI 1 <<< (nI k &&& 31))))
def cKeepDone (σ : cS) (t a k : Nat) (v : Int64) : cS := p_cM_nowDone (p_cM_results (p_cM_doneTimes (p_cM_doneSettings σ (upd (cM_doneSettings σ) (t * 8 + a) (cM_doneSettings σ (t * 8 + a) ||| (nI 1 <<< (nI k &&& 31))))) (upd (cM_doneTimes σ) (t * 8 + a) (cM_doneTimes σ (t * 8 + a) + nI 1))) (vp_updL (cM_results σ) ((t * 8 + a) * 16 + k) v)) (cM_nowDone σ + nI 1)
def cKeepMaker (σ : cS) (t n : Nat) (a : Nat) (k : Nat) : cS := p_cM_makerSettings (p_cM_makers σ (upd (cM_makers σ) (t * 10 + n) (nI a))) (upN (cM_makerSettings σ) (t * 10 + n) k)

set_option maxHeartbeats 4000000 in
set_option maxRecDepth 100000 in
/-- Memory.keepPassed(t, a, k) -/
theorem k_M_keepPassed (l : Launch) (K : zK) (G : Nat → Nat) (A : Nat → Prop) (hD : ∀ σ, va_D A (cW K G σ)) (σ : cS) (t a k : Nat) (ht : t < 20) (ha : a < 8) (hk : k < 16) : zMet l K A zy_M_keepPassed zws_M_keepPassed 1 [.ref (G 3), .int (nI t), .int (nI a), .int (nI k)] (cW K G σ) (cW K G (cKeepPassed σ t a k)) none := by
  refine z_entry (by decide) (Nat.le_of_ble_eq_true rfl) ?_
  intro p e s m below meth c ls X hr hml hlocks hP hl
  have hS : va_S A s.heap s.heap [] := va_S.rf
  have hl : lv_has ls 4 [(0, .ref (G 3)), (1, .int (nI t)), (2, .int (nI a)), (3, .int (nI k))] := hl
  refine lv_aload_n X.1 X.2.1 zd_M_keepPassed_0 rfl (lv_at hl 0 rfl) ?_
  refine g_cM_passedSettings X hP zd_M_keepPassed_1 ?_
  refine lv_iload_n X.1 X.2.1 zd_M_keepPassed_4 rfl (lv_at hl 1 rfl) ?_
  refine lv_iload_n X.1 X.2.1 zd_M_keepPassed_5 rfl (lv_at hl 2 rfl) ?_
  refine z_callSi (As := [.int (nI t), .int (nI a)]) (rest := [.ref (G 20)]) X hml (k_M_pair l K G A hD σ t a) (zk_M_37 X.2.2.2.1 (z_rm (by omega) (by decide))) hP hS rfl hl.1 rfl (Nat.le_of_ble_eq_true rfl) zd_M_keepPassed_6 ⟨Nat.zero_le _, Nat.zero_le _⟩ (fun H locs hP hS => ?_)
  refine lv_dup2_11 X.1 X.2.1 zd_M_keepPassed_9 rfl rfl ?_
  refine l_cM_passedSettings X hP (by omega) zd_M_keepPassed_10 ?_
  refine lv_iconst (v := nI 1) X.1 X.2.1 zd_M_keepPassed_11 (by decide) ?_
  refine lv_iload_n X.1 X.2.1 zd_M_keepPassed_12 rfl (lv_at hl 3 rfl) ?_
  refine lv_ishl X.1 X.2.1 zd_M_keepPassed_13 ?_
  refine lv_ior X.1 X.2.1 zd_M_keepPassed_14 ?_
  refine s_cM_passedSettings X hD hP hS (by omega) zd_M_keepPassed_15 (fun H locs hP hS => ?_)
  have hP : va_P K.1 zcl (cW K G (p_cM_passedSettings σ (upd (cM_passedSettings σ) (t * 8 + a) ((cM_passedSettings σ (t * 8 + a)) ||| ((nI 1) <<< ((nI k) &&& 31)))))) H := hP
  exact z_vret X.1 X.2.1 hr hlocks rfl hP hS zd_M_keepPassed_16

set_option maxHeartbeats 4000000 in
set_option maxRecDepth 100000 in
/-- Memory.keepDone(t, a, k, v) -/
theorem k_M_keepDone (l : Launch) (K : zK) (G : Nat → Nat) (A : Nat → Prop) (hD : ∀ σ, va_D A (cW K G σ)) (σ : cS) (t a k : Nat) (v : Int64) (ht : t < 20) (ha : a < 8) (hk : k < 16) : zMet l K A zy_M_keepDone zws_M_keepDone 1 [.ref (G 3), .int (nI t), .int (nI a), .int (nI k), .long v] (cW K G σ) (cW K G (cKeepDone σ t a k v)) none := by
  refine z_entry (by decide) (Nat.le_of_ble_eq_true rfl) ?_
  intro p e s m below meth c ls X hr hml hlocks hP hl
  have hS : va_S A s.heap s.heap [] := va_S.rf
  have hl : lv_has ls 7 [(0, .ref (G 3)), (1, .int (nI t)), (2, .int (nI a)), (3, .int (nI k)), (4, .long v)] := hl
  refine lv_iload_n X.1 X.2.1 zd_M_keepDone_0 rfl (lv_at hl 1 rfl) ?_
  refine lv_iload_n X.1 X.2.1 zd_M_keepDone_1 rfl (lv_at hl 2 rfl) ?_
  refine z_callSi (As := [.int (nI t), .int (nI a)]) (rest := []) X hml (k_M_pair l K G A hD σ t a) (zk_M_37 X.2.2.2.1 (z_rm (by omega) (by decide))) hP hS rfl hl.1 rfl (Nat.le_of_ble_eq_true rfl) zd_M_keepDone_2 ⟨Nat.zero_le _, Nat.zero_le _⟩ (fun H locs hP hS => ?_)
  refine lv_istore (lv' := [(6, .int (nI (t * 8 + a))), (0, .ref (G 3)), (1, .int (nI t)), (2, .int (nI a)), (3, .int (nI k)), (4, .long v)]) X.1 X.2.1 zd_M_keepDone_5 hl (by decide) rfl (fun ls hl => ?_)
  refine lv_aload_n X.1 X.2.1 zd_M_keepDone_7 rfl (lv_at hl 1 rfl) ?_
  refine g_cM_doneSettings X hP zd_M_keepDone_8 ?_
  refine lv_iload X.1 X.2.1 zd_M_keepDone_11 (lv_at hl 0 rfl) ?_
  refine lv_dup2_11 X.1 X.2.1 zd_M_keepDone_13 rfl rfl ?_
  refine l_cM_doneSettings X hP (by omega) zd_M_keepDone_14 ?_
  refine lv_iconst (v := nI 1) X.1 X.2.1 zd_M_keepDone_15 (by decide) ?_
  refine lv_iload_n X.1 X.2.1 zd_M_keepDone_16 rfl (lv_at hl 4 rfl) ?_
  refine lv_ishl X.1 X.2.1 zd_M_keepDone_17 ?_
  refine lv_ior X.1 X.2.1 zd_M_keepDone_18 ?_
  refine s_cM_doneSettings X hD hP hS (by omega) zd_M_keepDone_19 (fun H locs hP hS => ?_)
  have hP : va_P K.1 zcl (cW K G (p_cM_doneSettings σ (upd (cM_doneSettings σ) (t * 8 + a) ((cM_doneSettings σ (t * 8 + a)) ||| ((nI 1) <<< ((nI k) &&& 31)))))) H := hP
  refine lv_aload_n X.1 X.2.1 zd_M_keepDone_20 rfl (lv_at hl 1 rfl) ?_
  refine g_cM_doneTimes X hP zd_M_keepDone_21 ?_
  refine lv_iload X.1 X.2.1 zd_M_keepDone_24 (lv_at hl 0 rfl) ?_
  refine lv_dup2_11 X.1 X.2.1 zd_M_keepDone_26 rfl rfl ?_
  refine l_cM_doneTimes X hP (by omega) zd_M_keepDone_27 ?_
  refine z_top (y := (cM_doneTimes σ (t * 8 + a))) rfl ?_
  refine lv_iconst (v := nI 1) X.1 X.2.1 zd_M_keepDone_28 (by decide) ?_
  refine lv_iadd X.1 X.2.1 zd_M_keepDone_29 ?_
  refine s_cM_doneTimes X hD hP hS (by omega) zd_M_keepDone_30 (fun H locs hP hS => ?_)
  have hP : va_P K.1 zcl (cW K G (p_cM_doneTimes (p_cM_doneSettings σ (upd (cM_doneSettings σ) (t * 8 + a) ((cM_doneSettings σ (t * 8 + a)) ||| ((nI 1) <<< ((nI k) &&& 31))))) (upd (cM_doneTimes σ) (t * 8 + a) ((cM_doneTimes σ (t * 8 + a)) + (nI 1))))) H := hP
  refine lv_aload_n X.1 X.2.1 zd_M_keepDone_31 rfl (lv_at hl 1 rfl) ?_
  refine g_cM_results X hP zd_M_keepDone_32 ?_
  refine lv_iload X.1 X.2.1 zd_M_keepDone_35 (lv_at hl 0 rfl) ?_
  refine lv_bipush (v := nI 16) X.1 X.2.1 zd_M_keepDone_37 (by decide) ?_
  refine lv_imul X.1 X.2.1 zd_M_keepDone_39 ?_
  refine z_top (pk_mul _ _) ?_
  refine lv_iload_n X.1 X.2.1 zd_M_keepDone_40 rfl (lv_at hl 4 rfl) ?_
  refine lv_iadd X.1 X.2.1 zd_M_keepDone_41 ?_
  refine z_top (nI_add _ _) ?_
  refine lv_lload X.1 X.2.1 zd_M_keepDone_42 (lv_at hl 5 rfl) ?_
  refine s_cM_results X hD hP hS (by omega) zd_M_keepDone_44 (fun H locs hP hS => ?_)
  have hP : va_P K.1 zcl (cW K G (p_cM_results (p_cM_doneTimes (p_cM_doneSettings σ (upd (cM_doneSettings σ) (t * 8 + a) ((cM_doneSettings σ (t * 8 + a)) ||| ((nI 1) <<< ((nI k) &&& 31))))) (upd (cM_doneTimes σ) (t * 8 + a) ((cM_doneTimes σ (t * 8 + a)) + (nI 1)))) (vp_updL (cM_results σ) (((t * 8 + a) * 16) + k) v))) H := hP
  refine lv_aload_n X.1 X.2.1 zd_M_keepDone_45 rfl (lv_at hl 1 rfl) ?_
  refine lv_dup X.1 X.2.1 zd_M_keepDone_46 rfl ?_
  refine g_cM_nowDone X hP zd_M_keepDone_47 ?_
  refine z_top (y := (cM_nowDone σ)) rfl ?_
  refine lv_iconst (v := nI 1) X.1 X.2.1 zd_M_keepDone_50 (by decide) ?_
  refine lv_iadd X.1 X.2.1 zd_M_keepDone_51 ?_
  refine s_cM_nowDone X hD hP hS zd_M_keepDone_52 (fun H locs hP hS => ?_)
  have hP : va_P K.1 zcl (cW K G (p_cM_nowDone (p_cM_results (p_cM_doneTimes (p_cM_doneSettings σ (upd (cM_doneSettings σ) (t * 8 + a) ((cM_doneSettings σ (t * 8 + a)) ||| ((nI 1) <<< ((nI k) &&& 31))))) (upd (cM_doneTimes σ) (t * 8 + a) ((cM_doneTimes σ (t * 8 + a)) + (nI 1)))) (vp_updL (cM_results σ) (((t * 8 + a) * 16) + k) v)) ((cM_nowDone σ) + (nI 1)))) H := hP
  exact z_vret X.1 X.2.1 hr hlocks rfl hP hS zd_M_keepDone_55

set_option maxHeartbeats 4000000 in
set_option maxRecDepth 100000 in
/-- Memory.keepMaker(t, n, a, k) -/
theorem k_M_keepMaker (l : Launch) (K : zK) (G : Nat → Nat) (A : Nat → Prop) (hD : ∀ σ, va_D A (cW K G σ)) (σ : cS) (t n a k : Nat) (ht : t < 20) (hn : n < 10) : zMet l K A zy_M_keepMaker zws_M_keepMaker 0 [.ref (G 3), .int (nI t), .int (nI n), .int (nI a), .int (nI k)] (cW K G σ) (cW K G (cKeepMaker σ t n a k)) none := by
  refine z_entry (by decide) (Nat.le_of_ble_eq_true rfl) ?_
  intro p e s m below meth c ls X hr hml hlocks hP hl
  have hS : va_S A s.heap s.heap [] := va_S.rf
  have hl : lv_has ls 5 [(0, .ref (G 3)), (1, .int (nI t)), (2, .int (nI n)), (3, .int (nI a)), (4, .int (nI k))] := hl
  refine lv_aload_n X.1 X.2.1 zd_M_keepMaker_0 rfl (lv_at hl 0 rfl) ?_
  refine g_cM_makers X hP zd_M_keepMaker_1 ?_
  refine lv_iload_n X.1 X.2.1 zd_M_keepMaker_4 rfl (lv_at hl 1 rfl) ?_
  refine lv_bipush (v := nI 10) X.1 X.2.1 zd_M_keepMaker_5 (by decide) ?_
  refine lv_imul X.1 X.2.1 zd_M_keepMaker_7 ?_
  refine z_top (pk_mul _ _) ?_
  refine lv_iload_n X.1 X.2.1 zd_M_keepMaker_8 rfl (lv_at hl 2 rfl) ?_
  refine lv_iadd X.1 X.2.1 zd_M_keepMaker_9 ?_
  refine z_top (nI_add _ _) ?_
  refine lv_iload_n X.1 X.2.1 zd_M_keepMaker_10 rfl (lv_at hl 3 rfl) ?_
  refine s_cM_makers X hD hP hS (by omega) zd_M_keepMaker_11 (fun H locs hP hS => ?_)
  have hP : va_P K.1 zcl (cW K G (p_cM_makers σ (upd (cM_makers σ) ((t * 10) + n) (nI a)))) H := hP
  refine lv_aload_n X.1 X.2.1 zd_M_keepMaker_12 rfl (lv_at hl 0 rfl) ?_
  refine g_cM_makerSettings X hP zd_M_keepMaker_13 ?_
  refine lv_iload_n X.1 X.2.1 zd_M_keepMaker_16 rfl (lv_at hl 1 rfl) ?_
  refine lv_bipush (v := nI 10) X.1 X.2.1 zd_M_keepMaker_17 (by decide) ?_
  refine lv_imul X.1 X.2.1 zd_M_keepMaker_19 ?_
  refine z_top (pk_mul _ _) ?_
  refine lv_iload_n X.1 X.2.1 zd_M_keepMaker_20 rfl (lv_at hl 2 rfl) ?_
  refine lv_iadd X.1 X.2.1 zd_M_keepMaker_21 ?_
  refine z_top (nI_add _ _) ?_
  refine lv_iload X.1 X.2.1 zd_M_keepMaker_22 (lv_at hl 4 rfl) ?_
  refine s_cM_makerSettings X hD hP hS (by omega) zd_M_keepMaker_24 (fun H locs hP hS => ?_)
  have hP : va_P K.1 zcl (cW K G (p_cM_makerSettings (p_cM_makers σ (upd (cM_makers σ) ((t * 10) + n) (nI a))) (upN (cM_makerSettings σ) ((t * 10) + n) k))) H := hP
  exact z_vret X.1 X.2.1 hr hlocks rfl hP hS zd_M_keepMaker_25

