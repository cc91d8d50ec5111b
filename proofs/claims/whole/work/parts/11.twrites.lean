/-! contracts of Targets' and Aspects' writes (by program: wip/gen/twrites.py) -/
def cOpenT (σ : cS) (v : Int64) (g : Int32) : cS := p_cT_opened (p_cT_reached (p_cT_ends (p_cT_providers (p_cT_values σ (vp_updL (cT_values σ) (cT_opened σ) v)) (upd (cT_providers σ) (cT_opened σ) g)) (upN (cT_ends σ) (cT_opened σ) (cT_opened σ))) (upd (cT_reached σ) (cT_opened σ) (nI 1 <<< (nI (cT_opened σ) &&& 31)))) (cT_opened σ + 1)
def cOpenAlias (σ : cS) (o : Nat) : cS := p_cT_opened (p_cT_ends σ (upN (cT_ends σ) (cT_opened σ) (cT_ends σ o))) (cT_opened σ + 1)
def cAssign (σ : cS) (n : Nat) (v : Int64) (g : Int32) : cS := p_cT_providers (p_cT_values σ (vp_updL (cT_values σ) n v)) (upd (cT_providers σ) n g)
def cDiffers (σ : cS) (n : Nat) (v : Int64) (g : Int32) : Nat := if cT_values σ n = v ∧ cT_providers σ n = g then 0 else 1
/-- what reaches n reaches what o reaches: one step after another -/
def cReachL (σ : cS) (n o : Nat) : Nat → cS
  | 0 => σ
  | i + 1 => if cLead (cT_reached (cReachL σ n o i) i) n = 0 then cReachL σ n o i else p_cT_reached (cReachL σ n o i) (upd (cT_reached (cReachL σ n o i)) i (cT_reached (cReachL σ n o i) i ||| cT_reached (cReachL σ n o i) o))
theorem cReachL_opened (σ : cS) (n o i : Nat) : cT_opened (cReachL σ n o i) = cT_opened σ := by
  induction i with
  | zero => rfl
  | succ i ih =>
    unfold cReachL
    split
    · exact ih
    · exact ih
def cAppend0 (σ : cS) (n a o : Nat) : cS := p_cT_rowLengths (p_cT_rows σ (upN (cT_rows σ) ((n * 3 + a) * 4 + cT_rowLengths σ (n * 3 + a)) o)) (upN (cT_rowLengths σ) (n * 3 + a) (cT_rowLengths σ (n * 3 + a) + 1))
def cAppend (σ : cS) (n a o : Nat) : cS := cReachL (cAppend0 σ n a o) n o (cT_opened σ)
def cOpenA (σ : cS) (k : Nat) (al w g nm : Int32) : cS := p_cA_opened (p_cA_reached (p_cA_names (p_cA_gives (p_cA_wants (p_cA_alongs (p_cA_kinds σ (upN (cA_kinds σ) (cA_opened σ) k)) (upd (cA_alongs σ) (cA_opened σ) al)) (upd (cA_wants σ) (cA_opened σ) w)) (upd (cA_gives σ) (cA_opened σ) g)) (upd (cA_names σ) (cA_opened σ) nm)) (upd (cA_reached σ) (cA_opened σ) (nI 1 <<< (nI (cA_opened σ) &&& 31)))) (cA_opened σ + 1)
/-- whether one of the first j needs of n is o -/
def cDirect (σ : cS) (n o : Nat) : Nat → Bool
  | 0 => false
  | j + 1 => cDirect σ n o j || decide (cA_needs σ (n * 3 + j) = o)
def cReachA (σ : cS) (n o : Nat) : Nat → cS
  | 0 => σ
  | i + 1 => if cLead (cA_reached (cReachA σ n o i) i) n = 0 then cReachA σ n o i else p_cA_reached (cReachA σ n o i) (upd (cA_reached (cReachA σ n o i)) i (cA_reached (cReachA σ n o i) i ||| cA_reached (cReachA σ n o i) o))
theorem cReachA_opened (σ : cS) (n o i : Nat) : cA_opened (cReachA σ n o i) = cA_opened σ := by
  induction i with
  | zero => rfl
  | succ i ih =>
    unfold cReachA
    split
    · exact ih
    · exact ih
def cAppendNeed0 (σ : cS) (n o : Nat) : cS := p_cA_needCounts (p_cA_needs σ (upN (cA_needs σ) (n * 3 + cA_needCounts σ n) o)) (upN (cA_needCounts σ) n (cA_needCounts σ n + 1))
def cAppendNeed (σ : cS) (n o : Nat) : cS := cReachA (cAppendNeed0 σ n o) n o (cA_opened σ)

set_option maxHeartbeats 4000000 in
set_option maxRecDepth 100000 in
/-- Targets.open: a new one -/
theorem k_T_open_1 (l : Launch) (K : zK) (G : Nat → Nat) (A : Nat → Prop) (hD : ∀ σ, va_D A (cW K G σ)) (σ : cS) (v : Int64) (g : Int32) (ho : cT_opened σ < 20) : zMet l K A zy_T_open zws_T_open 0 [.ref (G 1), .long v, .int g] (cW K G σ) (cW K G (cOpenT σ v g)) (some (.int (nI (cT_opened σ)))) := by
  refine z_entry (by decide) (Nat.le_of_ble_eq_true rfl) ?_
  intro p e s m below meth c ls X hr hml hlocks hP hl
  have hS : va_S A s.heap s.heap [] := va_S.rf
  have hl : lv_has ls 5 [(0, .ref (G 1)), (1, .long v), (3, .int g)] := hl
  refine lv_aload_n X.1 X.2.1 zd_T_open_0 rfl (lv_at hl 0 rfl) ?_
  refine g_cT_opened X hP zd_T_open_1 ?_
  refine lv_bipush (v := nI 20) X.1 X.2.1 zd_T_open_4 (by decide) ?_
  refine lv_icmp_lt (tgt := 11) X.1 X.2.1 zd_T_open_6 (by decide) (fun _ => ?_) (fun h9 => absurd (by rw [nI_ltI (by omega) (by omega)]; omega) h9)
  refine lv_aload_n X.1 X.2.1 zd_T_open_11 rfl (lv_at hl 0 rfl) ?_
  refine g_cT_opened X hP zd_T_open_12 ?_
  refine lv_istore (lv' := [(4, .int (nI (cT_opened σ))), (0, .ref (G 1)), (1, .long v), (3, .int g)]) X.1 X.2.1 zd_T_open_15 hl (by decide) rfl (fun ls hl => ?_)
  refine lv_aload_n X.1 X.2.1 zd_T_open_17 rfl (lv_at hl 1 rfl) ?_
  refine g_cT_values X hP zd_T_open_18 ?_
  refine lv_iload X.1 X.2.1 zd_T_open_21 (lv_at hl 0 rfl) ?_
  refine lv_lload_n X.1 X.2.1 zd_T_open_23 rfl (lv_at hl 2 rfl) ?_
  refine s_cT_values X hD hP hS (by omega) zd_T_open_24 (fun H locs hP hS => ?_)
  have hP : va_P K.1 zcl (cW K G (p_cT_values σ (vp_updL (cT_values σ) (cT_opened σ) v))) H := hP
  refine lv_aload_n X.1 X.2.1 zd_T_open_25 rfl (lv_at hl 1 rfl) ?_
  refine g_cT_providers X hP zd_T_open_26 ?_
  refine lv_iload X.1 X.2.1 zd_T_open_29 (lv_at hl 0 rfl) ?_
  refine lv_iload_n X.1 X.2.1 zd_T_open_31 rfl (lv_at hl 3 rfl) ?_
  refine s_cT_providers X hD hP hS (by omega) zd_T_open_32 (fun H locs hP hS => ?_)
  have hP : va_P K.1 zcl (cW K G (p_cT_providers (p_cT_values σ (vp_updL (cT_values σ) (cT_opened σ) v)) (upd (cT_providers σ) (cT_opened σ) g))) H := hP
  refine lv_aload_n X.1 X.2.1 zd_T_open_33 rfl (lv_at hl 1 rfl) ?_
  refine g_cT_ends X hP zd_T_open_34 ?_
  refine lv_iload X.1 X.2.1 zd_T_open_37 (lv_at hl 0 rfl) ?_
  refine lv_iload X.1 X.2.1 zd_T_open_39 (lv_at hl 0 rfl) ?_
  refine s_cT_ends X hD hP hS (by omega) zd_T_open_41 (fun H locs hP hS => ?_)
  have hP : va_P K.1 zcl (cW K G (p_cT_ends (p_cT_providers (p_cT_values σ (vp_updL (cT_values σ) (cT_opened σ) v)) (upd (cT_providers σ) (cT_opened σ) g)) (upN (cT_ends σ) (cT_opened σ) (cT_opened σ)))) H := hP
  refine lv_aload_n X.1 X.2.1 zd_T_open_42 rfl (lv_at hl 1 rfl) ?_
  refine g_cT_reached X hP zd_T_open_43 ?_
  refine lv_iload X.1 X.2.1 zd_T_open_46 (lv_at hl 0 rfl) ?_
  refine lv_iconst (v := nI 1) X.1 X.2.1 zd_T_open_48 (by decide) ?_
  refine lv_iload X.1 X.2.1 zd_T_open_49 (lv_at hl 0 rfl) ?_
  refine lv_ishl X.1 X.2.1 zd_T_open_51 ?_
  refine s_cT_reached X hD hP hS (by omega) zd_T_open_52 (fun H locs hP hS => ?_)
  have hP : va_P K.1 zcl (cW K G (p_cT_reached (p_cT_ends (p_cT_providers (p_cT_values σ (vp_updL (cT_values σ) (cT_opened σ) v)) (upd (cT_providers σ) (cT_opened σ) g)) (upN (cT_ends σ) (cT_opened σ) (cT_opened σ))) (upd (cT_reached σ) (cT_opened σ) ((nI 1) <<< ((nI (cT_opened σ)) &&& 31))))) H := hP
  refine lv_aload_n X.1 X.2.1 zd_T_open_53 rfl (lv_at hl 1 rfl) ?_
  refine lv_dup X.1 X.2.1 zd_T_open_54 rfl ?_
  refine g_cT_opened X hP zd_T_open_55 ?_
  refine z_top (y := (nI (cT_opened σ))) rfl ?_
  refine lv_iconst (v := nI 1) X.1 X.2.1 zd_T_open_58 (by decide) ?_
  refine lv_iadd X.1 X.2.1 zd_T_open_59 ?_
  refine z_top (nI_add _ _) ?_
  refine s_cT_opened X hD hP hS zd_T_open_60 (fun H locs hP hS => ?_)
  have hP : va_P K.1 zcl (cW K G (p_cT_opened (p_cT_reached (p_cT_ends (p_cT_providers (p_cT_values σ (vp_updL (cT_values σ) (cT_opened σ) v)) (upd (cT_providers σ) (cT_opened σ) g)) (upN (cT_ends σ) (cT_opened σ) (cT_opened σ))) (upd (cT_reached σ) (cT_opened σ) ((nI 1) <<< ((nI (cT_opened σ)) &&& 31)))) ((cT_opened σ) + 1))) H := hP
  refine lv_iload X.1 X.2.1 zd_T_open_63 (lv_at hl 0 rfl) ?_
  exact z_iret X.1 X.2.1 hr hlocks rfl rfl hP hS zd_T_open_65

set_option maxHeartbeats 4000000 in
set_option maxRecDepth 100000 in
/-- Targets.open: full -/
theorem k_T_open_0 (l : Launch) (K : zK) (G : Nat → Nat) (A : Nat → Prop) (hD : ∀ σ, va_D A (cW K G σ)) (σ : cS) (v : Int64) (g : Int32) (ho : cT_opened σ = 20) : zMet l K A zy_T_open zws_T_open 0 [.ref (G 1), .long v, .int g] (cW K G σ) (cW K G σ) (some (.int (-1))) := by
  refine z_entry (by decide) (Nat.le_of_ble_eq_true rfl) ?_
  intro p e s m below meth c ls X hr hml hlocks hP hl
  have hS : va_S A s.heap s.heap [] := va_S.rf
  have hl : lv_has ls 5 [(0, .ref (G 1)), (1, .long v), (3, .int g)] := hl
  refine lv_aload_n X.1 X.2.1 zd_T_open_0 rfl (lv_at hl 0 rfl) ?_
  refine g_cT_opened X hP zd_T_open_1 ?_
  refine lv_bipush (v := nI 20) X.1 X.2.1 zd_T_open_4 (by decide) ?_
  refine lv_icmp_lt (tgt := 11) X.1 X.2.1 zd_T_open_6 (by decide) (fun h9 => absurd h9 (by rw [nI_ltI (by omega) (by omega)]; omega)) (fun _ => ?_)
  refine lv_iconst (v := -1) X.1 X.2.1 zd_T_open_9 (by decide) ?_
  exact z_iret X.1 X.2.1 hr hlocks rfl rfl hP hS zd_T_open_10

set_option maxHeartbeats 4000000 in
set_option maxRecDepth 100000 in
/-- Targets.openAlias: a new one -/
theorem k_T_openAlias_1 (l : Launch) (K : zK) (G : Nat → Nat) (A : Nat → Prop) (hD : ∀ σ, va_D A (cW K G σ)) (σ : cS) (o : Nat) (hoo : o < 20) (ho : cT_opened σ < 20) : zMet l K A zy_T_openAlias zws_T_openAlias 0 [.ref (G 1), .int (nI o)] (cW K G σ) (cW K G (cOpenAlias σ o)) (some (.int (nI (cT_opened σ)))) := by
  refine z_entry (by decide) (Nat.le_of_ble_eq_true rfl) ?_
  intro p e s m below meth c ls X hr hml hlocks hP hl
  have hS : va_S A s.heap s.heap [] := va_S.rf
  have hl : lv_has ls 3 [(0, .ref (G 1)), (1, .int (nI o))] := hl
  refine lv_aload_n X.1 X.2.1 zd_T_openAlias_0 rfl (lv_at hl 0 rfl) ?_
  refine g_cT_opened X hP zd_T_openAlias_1 ?_
  refine lv_bipush (v := nI 20) X.1 X.2.1 zd_T_openAlias_4 (by decide) ?_
  refine lv_icmp_lt (tgt := 11) X.1 X.2.1 zd_T_openAlias_6 (by decide) (fun _ => ?_) (fun h9 => absurd (by rw [nI_ltI (by omega) (by omega)]; omega) h9)
  refine lv_aload_n X.1 X.2.1 zd_T_openAlias_11 rfl (lv_at hl 0 rfl) ?_
  refine g_cT_opened X hP zd_T_openAlias_12 ?_
  refine lv_istore_n (lv' := [(2, .int (nI (cT_opened σ))), (0, .ref (G 1)), (1, .int (nI o))]) X.1 X.2.1 zd_T_openAlias_15 rfl hl (by decide) rfl (fun ls hl => ?_)
  refine lv_aload_n X.1 X.2.1 zd_T_openAlias_16 rfl (lv_at hl 1 rfl) ?_
  refine g_cT_ends X hP zd_T_openAlias_17 ?_
  refine lv_iload_n X.1 X.2.1 zd_T_openAlias_20 rfl (lv_at hl 0 rfl) ?_
  refine lv_aload_n X.1 X.2.1 zd_T_openAlias_21 rfl (lv_at hl 1 rfl) ?_
  refine g_cT_ends X hP zd_T_openAlias_22 ?_
  refine lv_iload_n X.1 X.2.1 zd_T_openAlias_25 rfl (lv_at hl 2 rfl) ?_
  refine l_cT_ends X hP (by omega) zd_T_openAlias_26 ?_
  refine s_cT_ends X hD hP hS (by omega) zd_T_openAlias_27 (fun H locs hP hS => ?_)
  have hP : va_P K.1 zcl (cW K G (p_cT_ends σ (upN (cT_ends σ) (cT_opened σ) (cT_ends σ o)))) H := hP
  refine lv_aload_n X.1 X.2.1 zd_T_openAlias_28 rfl (lv_at hl 1 rfl) ?_
  refine lv_dup X.1 X.2.1 zd_T_openAlias_29 rfl ?_
  refine g_cT_opened X hP zd_T_openAlias_30 ?_
  refine z_top (y := (nI (cT_opened σ))) rfl ?_
  refine lv_iconst (v := nI 1) X.1 X.2.1 zd_T_openAlias_33 (by decide) ?_
  refine lv_iadd X.1 X.2.1 zd_T_openAlias_34 ?_
  refine z_top (nI_add _ _) ?_
  refine s_cT_opened X hD hP hS zd_T_openAlias_35 (fun H locs hP hS => ?_)
  have hP : va_P K.1 zcl (cW K G (p_cT_opened (p_cT_ends σ (upN (cT_ends σ) (cT_opened σ) (cT_ends σ o))) ((cT_opened σ) + 1))) H := hP
  refine lv_iload_n X.1 X.2.1 zd_T_openAlias_38 rfl (lv_at hl 0 rfl) ?_
  exact z_iret X.1 X.2.1 hr hlocks rfl rfl hP hS zd_T_openAlias_39

set_option maxHeartbeats 4000000 in
set_option maxRecDepth 100000 in
/-- Targets.openAlias: full -/
theorem k_T_openAlias_0 (l : Launch) (K : zK) (G : Nat → Nat) (A : Nat → Prop) (hD : ∀ σ, va_D A (cW K G σ)) (σ : cS) (o : Nat) (ho : cT_opened σ = 20) : zMet l K A zy_T_openAlias zws_T_openAlias 0 [.ref (G 1), .int (nI o)] (cW K G σ) (cW K G σ) (some (.int (-1))) := by
  refine z_entry (by decide) (Nat.le_of_ble_eq_true rfl) ?_
  intro p e s m below meth c ls X hr hml hlocks hP hl
  have hS : va_S A s.heap s.heap [] := va_S.rf
  have hl : lv_has ls 3 [(0, .ref (G 1)), (1, .int (nI o))] := hl
  refine lv_aload_n X.1 X.2.1 zd_T_openAlias_0 rfl (lv_at hl 0 rfl) ?_
  refine g_cT_opened X hP zd_T_openAlias_1 ?_
  refine lv_bipush (v := nI 20) X.1 X.2.1 zd_T_openAlias_4 (by decide) ?_
  refine lv_icmp_lt (tgt := 11) X.1 X.2.1 zd_T_openAlias_6 (by decide) (fun h9 => absurd h9 (by rw [nI_ltI (by omega) (by omega)]; omega)) (fun _ => ?_)
  refine lv_iconst (v := -1) X.1 X.2.1 zd_T_openAlias_9 (by decide) ?_
  exact z_iret X.1 X.2.1 hr hlocks rfl rfl hP hS zd_T_openAlias_10

set_option maxHeartbeats 4000000 in
set_option maxRecDepth 100000 in
/-- Targets.assign(n, v, g) -/
theorem k_T_assign (l : Launch) (K : zK) (G : Nat → Nat) (A : Nat → Prop) (hD : ∀ σ, va_D A (cW K G σ)) (σ : cS) (n : Nat) (v : Int64) (g : Int32) (hn : n < 20) : zMet l K A zy_T_assign zws_T_assign 0 [.ref (G 1), .int (nI n), .long v, .int g] (cW K G σ) (cW K G (cAssign σ n v g)) (some (.int (nI (cDiffers σ n v g)))) := by
  refine z_entry (by decide) (Nat.le_of_ble_eq_true rfl) ?_
  intro p e s m below meth c ls X hr hml hlocks hP hl
  have hS : va_S A s.heap s.heap [] := va_S.rf
  have hl : lv_has ls 6 [(0, .ref (G 1)), (1, .int (nI n)), (2, .long v), (4, .int g)] := hl
  refine lv_aload_n X.1 X.2.1 zd_T_assign_0 rfl (lv_at hl 0 rfl) ?_
  refine g_cT_values X hP zd_T_assign_1 ?_
  refine lv_iload_n X.1 X.2.1 zd_T_assign_4 rfl (lv_at hl 1 rfl) ?_
  refine l_cT_values X hP (by omega) zd_T_assign_5 ?_
  refine lv_lload_n X.1 X.2.1 zd_T_assign_6 rfl (lv_at hl 2 rfl) ?_
  refine W.lcmp X.1 X.2.1 zd_T_assign_7 ?_
  refine lv_if_ne (tgt := 22) X.1 X.2.1 zd_T_assign_8 (by decide) (fun c1 => ?_) (fun c1 => ?_)
  · refine lv_iconst (v := nI 1) X.1 X.2.1 zd_T_assign_22 (by decide) ?_
    refine lv_goto (tgt := 27) X.1 X.2.1 zd_T_assign_23 (by decide) ?_
    refine lv_istore (lv' := [(5, .int (nI 1)), (0, .ref (G 1)), (1, .int (nI n)), (2, .long v), (4, .int g)]) X.1 X.2.1 zd_T_assign_27 hl (by decide) rfl (fun ls hl => ?_)
    refine lv_aload_n X.1 X.2.1 zd_T_assign_29 rfl (lv_at hl 1 rfl) ?_
    refine g_cT_values X hP zd_T_assign_30 ?_
    refine lv_iload_n X.1 X.2.1 zd_T_assign_33 rfl (lv_at hl 2 rfl) ?_
    refine lv_lload_n X.1 X.2.1 zd_T_assign_34 rfl (lv_at hl 3 rfl) ?_
    refine s_cT_values X hD hP hS (by omega) zd_T_assign_35 (fun H locs hP hS => ?_)
    have hP : va_P K.1 zcl (cW K G (p_cT_values σ (vp_updL (cT_values σ) n v))) H := hP
    refine lv_aload_n X.1 X.2.1 zd_T_assign_36 rfl (lv_at hl 1 rfl) ?_
    refine g_cT_providers X hP zd_T_assign_37 ?_
    refine lv_iload_n X.1 X.2.1 zd_T_assign_40 rfl (lv_at hl 2 rfl) ?_
    refine lv_iload X.1 X.2.1 zd_T_assign_41 (lv_at hl 4 rfl) ?_
    refine s_cT_providers X hD hP hS (by omega) zd_T_assign_43 (fun H locs hP hS => ?_)
    have hP : va_P K.1 zcl (cW K G (p_cT_providers (p_cT_values σ (vp_updL (cT_values σ) n v)) (upd (cT_providers σ) n g))) H := hP
    refine lv_iload X.1 X.2.1 zd_T_assign_44 (lv_at hl 0 rfl) ?_
    exact z_zret X.1 X.2.1 hr hlocks (Or.inr rfl) (by simp only [cDiffers, lg_cmp_eq] at *; simp [*]) rfl hP hS zd_T_assign_46
  · refine lv_aload_n X.1 X.2.1 zd_T_assign_11 rfl (lv_at hl 0 rfl) ?_
    refine g_cT_providers X hP zd_T_assign_12 ?_
    refine lv_iload_n X.1 X.2.1 zd_T_assign_15 rfl (lv_at hl 1 rfl) ?_
    refine l_cT_providers X hP (by omega) zd_T_assign_16 ?_
    refine lv_iload X.1 X.2.1 zd_T_assign_17 (lv_at hl 3 rfl) ?_
    refine lv_icmp_eq (tgt := 26) X.1 X.2.1 zd_T_assign_19 (by decide) (fun c2 => ?_) (fun c2 => ?_)
    · refine lv_iconst (v := nI 0) X.1 X.2.1 zd_T_assign_26 (by decide) ?_
      refine lv_istore (lv' := [(5, .int (nI 0)), (0, .ref (G 1)), (1, .int (nI n)), (2, .long v), (4, .int g)]) X.1 X.2.1 zd_T_assign_27 hl (by decide) rfl (fun ls hl => ?_)
      refine lv_aload_n X.1 X.2.1 zd_T_assign_29 rfl (lv_at hl 1 rfl) ?_
      refine g_cT_values X hP zd_T_assign_30 ?_
      refine lv_iload_n X.1 X.2.1 zd_T_assign_33 rfl (lv_at hl 2 rfl) ?_
      refine lv_lload_n X.1 X.2.1 zd_T_assign_34 rfl (lv_at hl 3 rfl) ?_
      refine s_cT_values X hD hP hS (by omega) zd_T_assign_35 (fun H locs hP hS => ?_)
      have hP : va_P K.1 zcl (cW K G (p_cT_values σ (vp_updL (cT_values σ) n v))) H := hP
      refine lv_aload_n X.1 X.2.1 zd_T_assign_36 rfl (lv_at hl 1 rfl) ?_
      refine g_cT_providers X hP zd_T_assign_37 ?_
      refine lv_iload_n X.1 X.2.1 zd_T_assign_40 rfl (lv_at hl 2 rfl) ?_
      refine lv_iload X.1 X.2.1 zd_T_assign_41 (lv_at hl 4 rfl) ?_
      refine s_cT_providers X hD hP hS (by omega) zd_T_assign_43 (fun H locs hP hS => ?_)
      have hP : va_P K.1 zcl (cW K G (p_cT_providers (p_cT_values σ (vp_updL (cT_values σ) n v)) (upd (cT_providers σ) n g))) H := hP
      refine lv_iload X.1 X.2.1 zd_T_assign_44 (lv_at hl 0 rfl) ?_
      exact z_zret X.1 X.2.1 hr hlocks (Or.inl rfl) (by simp only [cDiffers, lg_cmp_eq] at *; simp [*]) rfl hP hS zd_T_assign_46
    · refine lv_iconst (v := nI 1) X.1 X.2.1 zd_T_assign_22 (by decide) ?_
      refine lv_goto (tgt := 27) X.1 X.2.1 zd_T_assign_23 (by decide) ?_
      refine lv_istore (lv' := [(5, .int (nI 1)), (0, .ref (G 1)), (1, .int (nI n)), (2, .long v), (4, .int g)]) X.1 X.2.1 zd_T_assign_27 hl (by decide) rfl (fun ls hl => ?_)
      refine lv_aload_n X.1 X.2.1 zd_T_assign_29 rfl (lv_at hl 1 rfl) ?_
      refine g_cT_values X hP zd_T_assign_30 ?_
      refine lv_iload_n X.1 X.2.1 zd_T_assign_33 rfl (lv_at hl 2 rfl) ?_
      refine lv_lload_n X.1 X.2.1 zd_T_assign_34 rfl (lv_at hl 3 rfl) ?_
      refine s_cT_values X hD hP hS (by omega) zd_T_assign_35 (fun H locs hP hS => ?_)
      have hP : va_P K.1 zcl (cW K G (p_cT_values σ (vp_updL (cT_values σ) n v))) H := hP
      refine lv_aload_n X.1 X.2.1 zd_T_assign_36 rfl (lv_at hl 1 rfl) ?_
      refine g_cT_providers X hP zd_T_assign_37 ?_
      refine lv_iload_n X.1 X.2.1 zd_T_assign_40 rfl (lv_at hl 2 rfl) ?_
      refine lv_iload X.1 X.2.1 zd_T_assign_41 (lv_at hl 4 rfl) ?_
      refine s_cT_providers X hD hP hS (by omega) zd_T_assign_43 (fun H locs hP hS => ?_)
      have hP : va_P K.1 zcl (cW K G (p_cT_providers (p_cT_values σ (vp_updL (cT_values σ) n v)) (upd (cT_providers σ) n g))) H := hP
      refine lv_iload X.1 X.2.1 zd_T_assign_44 (lv_at hl 0 rfl) ?_
      exact z_zret X.1 X.2.1 hr hlocks (Or.inr rfl) (by simp only [cDiffers, lg_cmp_eq] at *; simp [*]) rfl hP hS zd_T_assign_46

set_option maxHeartbeats 4000000 in
set_option maxRecDepth 100000 in
/-- append's loop -/
theorem q_T_append {p : Program} {e : Env} {s : State} {m : MethodId} {args : Array Value} {below : List Frame} {meth : Method} {c : Code} (l : Launch) (K : zK) (G : Nat → Nat) (A : Nat → Prop) (hD : ∀ σ, va_D A (cW K G σ)) (X : zFx K zR_T zb_T_append p s m args c) (hr : meth.sig.returnType = (some .boolean)) (hml : c.maxLocals = 7) (hlocks : meth.locks = false) (σ : cS) (n a o x4 x5 : Nat) (hn : n < 20) (ho : o < 20) (hN0 : cT_opened σ ≤ 20) : ∀ (j i : Nat), i + j = cT_opened σ → ∀ (τ : cS), τ = cReachL σ n o i → ∀ (H : Heap) (locs : List Loc) (ls : Array Slot), va_P K.1 zcl (cW K G τ) H → va_S A s.heap H locs → lv_has ls 7 [(6, .int (nI i)), (5, .int (nI x5)), (4, .int (nI x4)), (0, .ref (G 1)), (1, .int (nI n)), (2, .int (nI a)), (3, .int (nI o))] → W p l e (zrm 1) s m args below meth c H locs 0 0 (MQ below (zPost K A (cW K G (cReachL σ n o (cT_opened σ))) (some (.int (nI 1)))) args s 0 0 A) (F0 m 51 ls []) := by
  intro j
  induction j with
  | zero =>
    intro i hi τ hτ H locs ls hP hS hl
    have hN : cT_opened τ = cT_opened σ := by rw [hτ]; exact cReachL_opened σ n o i
    refine lv_iload X.1 X.2.1 zd_T_append_51 (lv_at hl 0 rfl) ?_
    refine lv_aload_n X.1 X.2.1 zd_T_append_53 rfl (lv_at hl 3 rfl) ?_
    refine g_cT_opened X hP zd_T_append_54 ?_
    refine z_top (congrArg nI hN) ?_
    refine lv_icmp_ge (tgt := 92) X.1 X.2.1 zd_T_append_57 (by decide) (fun _ => ?_) (fun h9 => absurd (by rw [nI_leI (by omega) (by omega)]; omega) h9)
    refine lv_iconst (v := nI 1) X.1 X.2.1 zd_T_append_92 (by decide) ?_
    exact z_zret X.1 X.2.1 hr hlocks (Or.inr rfl) rfl (by subst hτ; rw [show i = cT_opened σ by omega]) hP hS zd_T_append_93
  | succ j ih =>
    intro i hi τ hτ H locs ls hP hS hl
    have hN : cT_opened τ = cT_opened σ := by rw [hτ]; exact cReachL_opened σ n o i
    refine lv_iload X.1 X.2.1 zd_T_append_51 (lv_at hl 0 rfl) ?_
    refine lv_aload_n X.1 X.2.1 zd_T_append_53 rfl (lv_at hl 3 rfl) ?_
    refine g_cT_opened X hP zd_T_append_54 ?_
    refine z_top (congrArg nI hN) ?_
    refine lv_icmp_ge (tgt := 92) X.1 X.2.1 zd_T_append_57 (by decide) (fun h9 => absurd h9 (by rw [nI_leI (by omega) (by omega)]; omega)) (fun _ => ?_)
    refine lv_aload_n X.1 X.2.1 zd_T_append_60 rfl (lv_at hl 3 rfl) ?_
    refine lv_iload X.1 X.2.1 zd_T_append_61 (lv_at hl 0 rfl) ?_
    refine lv_iload_n X.1 X.2.1 zd_T_append_63 rfl (lv_at hl 4 rfl) ?_
    refine z_callVi (As := [.int (nI i), .int (nI n)]) (rest := []) (q0 := 1) (ci := 0) X hml (k_T_leadsTo l K G A hD τ i n (by omega)) (zk_T_35 X.2.2.2.1 (z_rm (by omega) (by decide))) rfl rfl rfl hP hS rfl hl.1 rfl (Nat.le_of_ble_eq_true rfl) zd_T_append_64 ⟨Nat.zero_le _, Nat.zero_le _⟩ (fun H locs hP hS => ?_)
    refine lv_if_eq (tgt := 86) X.1 X.2.1 zd_T_append_67 (by decide) (fun c1 => ?_) (fun c1 => ?_)
    · rw [z_eq0 (cLead_lt _ _)] at c1
      refine lv_iinc (v := nI (i + 1)) (lv' := [(6, .int (nI (i + 1))), (5, .int (nI x5)), (4, .int (nI x4)), (0, .ref (G 1)), (1, .int (nI n)), (2, .int (nI a)), (3, .int (nI o))]) X.1 X.2.1 zd_T_append_86 hl (k := 0) rfl (nI_1 _) (by decide) rfl (fun ls hl => ?_)
      refine lv_goto (tgt := 51) X.1 X.2.1 zd_T_append_89 (by decide) ?_
      exact ih (i + 1) (by omega) _ (by subst hτ; rw [cReachL]; simp [*]) H locs ls hP hS (lv_sub hl [0, 1, 2, 3, 4, 5, 6] rfl)
    · rw [z_eq0 (cLead_lt _ _)] at c1
      refine lv_aload_n X.1 X.2.1 zd_T_append_70 rfl (lv_at hl 3 rfl) ?_
      refine g_cT_reached X hP zd_T_append_71 ?_
      refine lv_iload X.1 X.2.1 zd_T_append_74 (lv_at hl 0 rfl) ?_
      refine lv_dup2_11 X.1 X.2.1 zd_T_append_76 rfl rfl ?_
      refine l_cT_reached X hP (by omega) zd_T_append_77 ?_
      refine lv_aload_n X.1 X.2.1 zd_T_append_78 rfl (lv_at hl 3 rfl) ?_
      refine g_cT_reached X hP zd_T_append_79 ?_
      refine lv_iload_n X.1 X.2.1 zd_T_append_82 rfl (lv_at hl 6 rfl) ?_
      refine l_cT_reached X hP (by omega) zd_T_append_83 ?_
      refine lv_ior X.1 X.2.1 zd_T_append_84 ?_
      refine s_cT_reached X hD hP hS (by omega) zd_T_append_85 (fun H locs hP hS => ?_)
      have hP : va_P K.1 zcl (cW K G (p_cT_reached τ (upd (cT_reached τ) i ((cT_reached τ i) ||| (cT_reached τ o))))) H := hP
      refine lv_iinc (v := nI (i + 1)) (lv' := [(6, .int (nI (i + 1))), (5, .int (nI x5)), (4, .int (nI x4)), (0, .ref (G 1)), (1, .int (nI n)), (2, .int (nI a)), (3, .int (nI o))]) X.1 X.2.1 zd_T_append_86 hl (k := 0) rfl (nI_1 _) (by decide) rfl (fun ls hl => ?_)
      refine lv_goto (tgt := 51) X.1 X.2.1 zd_T_append_89 (by decide) ?_
      exact ih (i + 1) (by omega) _ (by subst hτ; rw [cReachL]; simp [*]) H locs ls hP hS (lv_sub hl [0, 1, 2, 3, 4, 5, 6] rfl)

set_option maxHeartbeats 4000000 in
set_option maxRecDepth 100000 in
/-- Targets.append: there is room -/
theorem k_T_append_1 (l : Launch) (K : zK) (G : Nat → Nat) (A : Nat → Prop) (hD : ∀ σ, va_D A (cW K G σ)) (σ : cS) (n a o : Nat) (hn : n < 20) (ha : a < 3) (ho : o < 20) (hN0 : cT_opened σ ≤ 20) (hl4 : cT_rowLengths σ (n * 3 + a) < 4) : zMet l K A zy_T_append zws_T_append 1 [.ref (G 1), .int (nI n), .int (nI a), .int (nI o)] (cW K G σ) (cW K G (cAppend σ n a o)) (some (.int (nI 1))) := by
  refine z_entry (by decide) (Nat.le_of_ble_eq_true rfl) ?_
  intro p e s m below meth c ls X hr hml hlocks hP hl
  have hS : va_S A s.heap s.heap [] := va_S.rf
  have hl : lv_has ls 7 [(0, .ref (G 1)), (1, .int (nI n)), (2, .int (nI a)), (3, .int (nI o))] := hl
  refine lv_iload_n X.1 X.2.1 zd_T_append_0 rfl (lv_at hl 1 rfl) ?_
  refine lv_iconst (v := nI 3) X.1 X.2.1 zd_T_append_1 (by decide) ?_
  refine lv_imul X.1 X.2.1 zd_T_append_2 ?_
  refine z_top (pk_mul _ _) ?_
  refine lv_iload_n X.1 X.2.1 zd_T_append_3 rfl (lv_at hl 2 rfl) ?_
  refine lv_iadd X.1 X.2.1 zd_T_append_4 ?_
  refine z_top (nI_add _ _) ?_
  refine lv_istore (lv' := [(4, .int (nI ((n * 3) + a))), (0, .ref (G 1)), (1, .int (nI n)), (2, .int (nI a)), (3, .int (nI o))]) X.1 X.2.1 zd_T_append_5 hl (by decide) rfl (fun ls hl => ?_)
  refine lv_aload_n X.1 X.2.1 zd_T_append_7 rfl (lv_at hl 1 rfl) ?_
  refine g_cT_rowLengths X hP zd_T_append_8 ?_
  refine lv_iload X.1 X.2.1 zd_T_append_11 (lv_at hl 0 rfl) ?_
  refine l_cT_rowLengths X hP (by omega) zd_T_append_13 ?_
  refine lv_istore (lv' := [(5, .int (nI (cT_rowLengths σ ((n * 3) + a)))), (4, .int (nI ((n * 3) + a))), (0, .ref (G 1)), (1, .int (nI n)), (2, .int (nI a)), (3, .int (nI o))]) X.1 X.2.1 zd_T_append_14 hl (by decide) rfl (fun ls hl => ?_)
  refine lv_iload X.1 X.2.1 zd_T_append_16 (lv_at hl 0 rfl) ?_
  refine lv_iconst (v := nI 4) X.1 X.2.1 zd_T_append_18 (by decide) ?_
  refine lv_icmp_lt (tgt := 24) X.1 X.2.1 zd_T_append_19 (by decide) (fun _ => ?_) (fun h9 => absurd (by rw [nI_ltI (by omega) (by omega)]; omega) h9)
  refine lv_aload_n X.1 X.2.1 zd_T_append_24 rfl (lv_at hl 2 rfl) ?_
  refine g_cT_rows X hP zd_T_append_25 ?_
  refine lv_iload X.1 X.2.1 zd_T_append_28 (lv_at hl 1 rfl) ?_
  refine lv_iconst (v := nI 4) X.1 X.2.1 zd_T_append_30 (by decide) ?_
  refine lv_imul X.1 X.2.1 zd_T_append_31 ?_
  refine z_top (pk_mul _ _) ?_
  refine lv_iload X.1 X.2.1 zd_T_append_32 (lv_at hl 0 rfl) ?_
  refine lv_iadd X.1 X.2.1 zd_T_append_34 ?_
  refine z_top (nI_add _ _) ?_
  refine lv_iload_n X.1 X.2.1 zd_T_append_35 rfl (lv_at hl 5 rfl) ?_
  refine s_cT_rows X hD hP hS (by omega) zd_T_append_36 (fun H locs hP hS => ?_)
  have hP : va_P K.1 zcl (cW K G (p_cT_rows σ (upN (cT_rows σ) ((((n * 3) + a) * 4) + (cT_rowLengths σ ((n * 3) + a))) o))) H := hP
  refine lv_aload_n X.1 X.2.1 zd_T_append_37 rfl (lv_at hl 2 rfl) ?_
  refine g_cT_rowLengths X hP zd_T_append_38 ?_
  refine lv_iload X.1 X.2.1 zd_T_append_41 (lv_at hl 1 rfl) ?_
  refine lv_iload X.1 X.2.1 zd_T_append_43 (lv_at hl 0 rfl) ?_
  refine lv_iconst (v := nI 1) X.1 X.2.1 zd_T_append_45 (by decide) ?_
  refine lv_iadd X.1 X.2.1 zd_T_append_46 ?_
  refine z_top (nI_add _ _) ?_
  refine s_cT_rowLengths X hD hP hS (by omega) zd_T_append_47 (fun H locs hP hS => ?_)
  have hP : va_P K.1 zcl (cW K G (p_cT_rowLengths (p_cT_rows σ (upN (cT_rows σ) ((((n * 3) + a) * 4) + (cT_rowLengths σ ((n * 3) + a))) o)) (upN (cT_rowLengths σ) ((n * 3) + a) ((cT_rowLengths σ ((n * 3) + a)) + 1)))) H := hP
  refine lv_iconst (v := nI 0) X.1 X.2.1 zd_T_append_48 (by decide) ?_
  refine lv_istore (lv' := [(6, .int (nI 0)), (5, .int (nI (cT_rowLengths σ ((n * 3) + a)))), (4, .int (nI ((n * 3) + a))), (0, .ref (G 1)), (1, .int (nI n)), (2, .int (nI a)), (3, .int (nI o))]) X.1 X.2.1 zd_T_append_49 hl (by decide) rfl (fun ls hl => ?_)
  exact q_T_append l K G A hD X hr hml hlocks (cAppend0 σ n a o) n a o _ _ hn ho hN0 (cT_opened σ) 0 (by exact Nat.zero_add _) _ rfl H locs ls hP hS (lv_sub hl [0, 1, 2, 3, 4, 5, 6] rfl)

set_option maxHeartbeats 4000000 in
set_option maxRecDepth 100000 in
/-- Targets.append: the row is full -/
theorem k_T_append_0 (l : Launch) (K : zK) (G : Nat → Nat) (A : Nat → Prop) (hD : ∀ σ, va_D A (cW K G σ)) (σ : cS) (n a o : Nat) (hn : n < 20) (ha : a < 3) (hl4 : cT_rowLengths σ (n * 3 + a) = 4) : zMet l K A zy_T_append zws_T_append 1 [.ref (G 1), .int (nI n), .int (nI a), .int (nI o)] (cW K G σ) (cW K G σ) (some (.int (nI 0))) := by
  refine z_entry (by decide) (Nat.le_of_ble_eq_true rfl) ?_
  intro p e s m below meth c ls X hr hml hlocks hP hl
  have hS : va_S A s.heap s.heap [] := va_S.rf
  have hl : lv_has ls 7 [(0, .ref (G 1)), (1, .int (nI n)), (2, .int (nI a)), (3, .int (nI o))] := hl
  refine lv_iload_n X.1 X.2.1 zd_T_append_0 rfl (lv_at hl 1 rfl) ?_
  refine lv_iconst (v := nI 3) X.1 X.2.1 zd_T_append_1 (by decide) ?_
  refine lv_imul X.1 X.2.1 zd_T_append_2 ?_
  refine z_top (pk_mul _ _) ?_
  refine lv_iload_n X.1 X.2.1 zd_T_append_3 rfl (lv_at hl 2 rfl) ?_
  refine lv_iadd X.1 X.2.1 zd_T_append_4 ?_
  refine z_top (nI_add _ _) ?_
  refine lv_istore (lv' := [(4, .int (nI ((n * 3) + a))), (0, .ref (G 1)), (1, .int (nI n)), (2, .int (nI a)), (3, .int (nI o))]) X.1 X.2.1 zd_T_append_5 hl (by decide) rfl (fun ls hl => ?_)
  refine lv_aload_n X.1 X.2.1 zd_T_append_7 rfl (lv_at hl 1 rfl) ?_
  refine g_cT_rowLengths X hP zd_T_append_8 ?_
  refine lv_iload X.1 X.2.1 zd_T_append_11 (lv_at hl 0 rfl) ?_
  refine l_cT_rowLengths X hP (by omega) zd_T_append_13 ?_
  refine lv_istore (lv' := [(5, .int (nI (cT_rowLengths σ ((n * 3) + a)))), (4, .int (nI ((n * 3) + a))), (0, .ref (G 1)), (1, .int (nI n)), (2, .int (nI a)), (3, .int (nI o))]) X.1 X.2.1 zd_T_append_14 hl (by decide) rfl (fun ls hl => ?_)
  refine lv_iload X.1 X.2.1 zd_T_append_16 (lv_at hl 0 rfl) ?_
  refine lv_iconst (v := nI 4) X.1 X.2.1 zd_T_append_18 (by decide) ?_
  refine lv_icmp_lt (tgt := 24) X.1 X.2.1 zd_T_append_19 (by decide) (fun h9 => absurd h9 (by rw [nI_ltI (by omega) (by omega)]; omega)) (fun _ => ?_)
  refine lv_iconst (v := nI 0) X.1 X.2.1 zd_T_append_22 (by decide) ?_
  exact z_zret X.1 X.2.1 hr hlocks (Or.inl rfl) rfl rfl hP hS zd_T_append_23

set_option maxHeartbeats 4000000 in
set_option maxRecDepth 100000 in
/-- Aspects.open: a new one -/
theorem k_A_open_1 (l : Launch) (K : zK) (G : Nat → Nat) (A : Nat → Prop) (hD : ∀ σ, va_D A (cW K G σ)) (σ : cS) (k : Nat) (al w g nm : Int32) (ho : cA_opened σ < 8) : zMet l K A zy_A_open zws_A_open 0 [.ref (G 2), .int (nI k), .int al, .int w, .int g, .int nm] (cW K G σ) (cW K G (cOpenA σ k al w g nm)) (some (.int (nI (cA_opened σ)))) := by
  refine z_entry (by decide) (Nat.le_of_ble_eq_true rfl) ?_
  intro p e s m below meth c ls X hr hml hlocks hP hl
  have hS : va_S A s.heap s.heap [] := va_S.rf
  have hl : lv_has ls 7 [(0, .ref (G 2)), (1, .int (nI k)), (2, .int al), (3, .int w), (4, .int g), (5, .int nm)] := hl
  refine lv_aload_n X.1 X.2.1 zd_A_open_0 rfl (lv_at hl 0 rfl) ?_
  refine g_cA_opened X hP zd_A_open_1 ?_
  refine lv_bipush (v := nI 8) X.1 X.2.1 zd_A_open_4 (by decide) ?_
  refine lv_icmp_lt (tgt := 11) X.1 X.2.1 zd_A_open_6 (by decide) (fun _ => ?_) (fun h9 => absurd (by rw [nI_ltI (by omega) (by omega)]; omega) h9)
  refine lv_aload_n X.1 X.2.1 zd_A_open_11 rfl (lv_at hl 0 rfl) ?_
  refine g_cA_opened X hP zd_A_open_12 ?_
  refine lv_istore (lv' := [(6, .int (nI (cA_opened σ))), (0, .ref (G 2)), (1, .int (nI k)), (2, .int al), (3, .int w), (4, .int g), (5, .int nm)]) X.1 X.2.1 zd_A_open_15 hl (by decide) rfl (fun ls hl => ?_)
  refine lv_aload_n X.1 X.2.1 zd_A_open_17 rfl (lv_at hl 1 rfl) ?_
  refine g_cA_kinds X hP zd_A_open_18 ?_
  refine lv_iload X.1 X.2.1 zd_A_open_21 (lv_at hl 0 rfl) ?_
  refine lv_iload_n X.1 X.2.1 zd_A_open_23 rfl (lv_at hl 2 rfl) ?_
  refine s_cA_kinds X hD hP hS (by omega) zd_A_open_24 (fun H locs hP hS => ?_)
  have hP : va_P K.1 zcl (cW K G (p_cA_kinds σ (upN (cA_kinds σ) (cA_opened σ) k))) H := hP
  refine lv_aload_n X.1 X.2.1 zd_A_open_25 rfl (lv_at hl 1 rfl) ?_
  refine g_cA_alongs X hP zd_A_open_26 ?_
  refine lv_iload X.1 X.2.1 zd_A_open_29 (lv_at hl 0 rfl) ?_
  refine lv_iload_n X.1 X.2.1 zd_A_open_31 rfl (lv_at hl 3 rfl) ?_
  refine s_cA_alongs X hD hP hS (by omega) zd_A_open_32 (fun H locs hP hS => ?_)
  have hP : va_P K.1 zcl (cW K G (p_cA_alongs (p_cA_kinds σ (upN (cA_kinds σ) (cA_opened σ) k)) (upd (cA_alongs σ) (cA_opened σ) al))) H := hP
  refine lv_aload_n X.1 X.2.1 zd_A_open_33 rfl (lv_at hl 1 rfl) ?_
  refine g_cA_wants X hP zd_A_open_34 ?_
  refine lv_iload X.1 X.2.1 zd_A_open_37 (lv_at hl 0 rfl) ?_
  refine lv_iload_n X.1 X.2.1 zd_A_open_39 rfl (lv_at hl 4 rfl) ?_
  refine s_cA_wants X hD hP hS (by omega) zd_A_open_40 (fun H locs hP hS => ?_)
  have hP : va_P K.1 zcl (cW K G (p_cA_wants (p_cA_alongs (p_cA_kinds σ (upN (cA_kinds σ) (cA_opened σ) k)) (upd (cA_alongs σ) (cA_opened σ) al)) (upd (cA_wants σ) (cA_opened σ) w))) H := hP
  refine lv_aload_n X.1 X.2.1 zd_A_open_41 rfl (lv_at hl 1 rfl) ?_
  refine g_cA_gives X hP zd_A_open_42 ?_
  refine lv_iload X.1 X.2.1 zd_A_open_45 (lv_at hl 0 rfl) ?_
  refine lv_iload X.1 X.2.1 zd_A_open_47 (lv_at hl 5 rfl) ?_
  refine s_cA_gives X hD hP hS (by omega) zd_A_open_49 (fun H locs hP hS => ?_)
  have hP : va_P K.1 zcl (cW K G (p_cA_gives (p_cA_wants (p_cA_alongs (p_cA_kinds σ (upN (cA_kinds σ) (cA_opened σ) k)) (upd (cA_alongs σ) (cA_opened σ) al)) (upd (cA_wants σ) (cA_opened σ) w)) (upd (cA_gives σ) (cA_opened σ) g))) H := hP
  refine lv_aload_n X.1 X.2.1 zd_A_open_50 rfl (lv_at hl 1 rfl) ?_
  refine g_cA_names X hP zd_A_open_51 ?_
  refine lv_iload X.1 X.2.1 zd_A_open_54 (lv_at hl 0 rfl) ?_
  refine lv_iload X.1 X.2.1 zd_A_open_56 (lv_at hl 6 rfl) ?_
  refine s_cA_names X hD hP hS (by omega) zd_A_open_58 (fun H locs hP hS => ?_)
  have hP : va_P K.1 zcl (cW K G (p_cA_names (p_cA_gives (p_cA_wants (p_cA_alongs (p_cA_kinds σ (upN (cA_kinds σ) (cA_opened σ) k)) (upd (cA_alongs σ) (cA_opened σ) al)) (upd (cA_wants σ) (cA_opened σ) w)) (upd (cA_gives σ) (cA_opened σ) g)) (upd (cA_names σ) (cA_opened σ) nm))) H := hP
  refine lv_aload_n X.1 X.2.1 zd_A_open_59 rfl (lv_at hl 1 rfl) ?_
  refine g_cA_reached X hP zd_A_open_60 ?_
  refine lv_iload X.1 X.2.1 zd_A_open_63 (lv_at hl 0 rfl) ?_
  refine lv_iconst (v := nI 1) X.1 X.2.1 zd_A_open_65 (by decide) ?_
  refine lv_iload X.1 X.2.1 zd_A_open_66 (lv_at hl 0 rfl) ?_
  refine lv_ishl X.1 X.2.1 zd_A_open_68 ?_
  refine s_cA_reached X hD hP hS (by omega) zd_A_open_69 (fun H locs hP hS => ?_)
  have hP : va_P K.1 zcl (cW K G (p_cA_reached (p_cA_names (p_cA_gives (p_cA_wants (p_cA_alongs (p_cA_kinds σ (upN (cA_kinds σ) (cA_opened σ) k)) (upd (cA_alongs σ) (cA_opened σ) al)) (upd (cA_wants σ) (cA_opened σ) w)) (upd (cA_gives σ) (cA_opened σ) g)) (upd (cA_names σ) (cA_opened σ) nm)) (upd (cA_reached σ) (cA_opened σ) ((nI 1) <<< ((nI (cA_opened σ)) &&& 31))))) H := hP
  refine lv_aload_n X.1 X.2.1 zd_A_open_70 rfl (lv_at hl 1 rfl) ?_
  refine lv_dup X.1 X.2.1 zd_A_open_71 rfl ?_
  refine g_cA_opened X hP zd_A_open_72 ?_
  refine z_top (y := (nI (cA_opened σ))) rfl ?_
  refine lv_iconst (v := nI 1) X.1 X.2.1 zd_A_open_75 (by decide) ?_
  refine lv_iadd X.1 X.2.1 zd_A_open_76 ?_
  refine z_top (nI_add _ _) ?_
  refine s_cA_opened X hD hP hS zd_A_open_77 (fun H locs hP hS => ?_)
  have hP : va_P K.1 zcl (cW K G (p_cA_opened (p_cA_reached (p_cA_names (p_cA_gives (p_cA_wants (p_cA_alongs (p_cA_kinds σ (upN (cA_kinds σ) (cA_opened σ) k)) (upd (cA_alongs σ) (cA_opened σ) al)) (upd (cA_wants σ) (cA_opened σ) w)) (upd (cA_gives σ) (cA_opened σ) g)) (upd (cA_names σ) (cA_opened σ) nm)) (upd (cA_reached σ) (cA_opened σ) ((nI 1) <<< ((nI (cA_opened σ)) &&& 31)))) ((cA_opened σ) + 1))) H := hP
  refine lv_iload X.1 X.2.1 zd_A_open_80 (lv_at hl 0 rfl) ?_
  exact z_iret X.1 X.2.1 hr hlocks rfl rfl hP hS zd_A_open_82

set_option maxHeartbeats 4000000 in
set_option maxRecDepth 100000 in
/-- Aspects.open: full -/
theorem k_A_open_0 (l : Launch) (K : zK) (G : Nat → Nat) (A : Nat → Prop) (hD : ∀ σ, va_D A (cW K G σ)) (σ : cS) (k : Nat) (al w g nm : Int32) (ho : cA_opened σ = 8) : zMet l K A zy_A_open zws_A_open 0 [.ref (G 2), .int (nI k), .int al, .int w, .int g, .int nm] (cW K G σ) (cW K G σ) (some (.int (-1))) := by
  refine z_entry (by decide) (Nat.le_of_ble_eq_true rfl) ?_
  intro p e s m below meth c ls X hr hml hlocks hP hl
  have hS : va_S A s.heap s.heap [] := va_S.rf
  have hl : lv_has ls 7 [(0, .ref (G 2)), (1, .int (nI k)), (2, .int al), (3, .int w), (4, .int g), (5, .int nm)] := hl
  refine lv_aload_n X.1 X.2.1 zd_A_open_0 rfl (lv_at hl 0 rfl) ?_
  refine g_cA_opened X hP zd_A_open_1 ?_
  refine lv_bipush (v := nI 8) X.1 X.2.1 zd_A_open_4 (by decide) ?_
  refine lv_icmp_lt (tgt := 11) X.1 X.2.1 zd_A_open_6 (by decide) (fun h9 => absurd h9 (by rw [nI_ltI (by omega) (by omega)]; omega)) (fun _ => ?_)
  refine lv_iconst (v := -1) X.1 X.2.1 zd_A_open_9 (by decide) ?_
  exact z_iret X.1 X.2.1 hr hlocks rfl rfl hP hS zd_A_open_10

theorem cDirect_mono (σ : cS) (n o : Nat) {j k : Nat} (h : j ≤ k) (hj : cDirect σ n o j = true) : cDirect σ n o k = true := by
  induction k with
  | zero => rw [show j = 0 by omega] at hj; exact hj
  | succ k ih =>
    rcases Nat.lt_or_ge j (k + 1) with q | q
    · rw [cDirect, ih (by omega)]; rfl
    · rw [show k + 1 = j by omega]; exact hj
def b01 (b : Bool) : Nat := if b = true then 1 else 0
theorem b01_le (b : Bool) : b01 b ≤ 1 := by unfold b01; split <;> omega
theorem b01_lt (b : Bool) : b01 b < 2 ^ 31 := Nat.lt_of_le_of_lt (b01_le b) (by decide)

set_option maxHeartbeats 4000000 in
set_option maxRecDepth 100000 in
/-- needsDirectly's loop -/
theorem q_A_needsDirectly {p : Program} {e : Env} {s : State} {m : MethodId} {args : Array Value} {below : List Frame} {meth : Method} {c : Code} (l : Launch) (K : zK) (G : Nat → Nat) (A : Nat → Prop) (hD : ∀ σ, va_D A (cW K G σ)) (X : zFx K zR_A zb_A_needsDirectly p s m args c) (hr : meth.sig.returnType = (some .boolean)) (hml : c.maxLocals = 4) (hlocks : meth.locks = false) (σ : cS) (n o : Nat) (hn : n < 8) (ho : o < 8) (h3 : cA_needCounts σ n ≤ 3) (hb : ∀ q, cA_needs σ q < 8) : ∀ (j i : Nat), i + j = cA_needCounts σ n → ∀ (τ : cS), τ = σ → cDirect σ n o i = false → ∀ (H : Heap) (locs : List Loc) (ls : Array Slot), va_P K.1 zcl (cW K G τ) H → va_S A s.heap H locs → lv_has ls 4 [(3, .int (nI i)), (0, .ref (G 2)), (1, .int (nI n)), (2, .int (nI o))] → W p l e (zrm 1) s m args below meth c H locs 0 0 (MQ below (zPost K A (cW K G σ) (some (.int (nI (b01 (cDirect σ n o (cA_needCounts σ n))))))) args s 0 0 A) (F0 m 2 ls []) := by
  intro j
  induction j with
  | zero =>
    intro i hi τ hτ hinv H locs ls hP hS hl
    have hN : cA_needCounts τ n = cA_needCounts σ n := by rw [hτ]
    have hq := hb (n * 3 + i)
    have hq2 : cA_needs τ (n * 3 + i) < 8 := by rw [hτ]; exact hq
    refine lv_iload_n X.1 X.2.1 zd_A_needsDirectly_2 rfl (lv_at hl 0 rfl) ?_
    refine lv_aload_n X.1 X.2.1 zd_A_needsDirectly_3 rfl (lv_at hl 1 rfl) ?_
    refine g_cA_needCounts X hP zd_A_needsDirectly_4 ?_
    refine lv_iload_n X.1 X.2.1 zd_A_needsDirectly_7 rfl (lv_at hl 2 rfl) ?_
    refine l_cA_needCounts X hP (by omega) zd_A_needsDirectly_8 ?_
    refine lv_icmp_ge (tgt := 30) X.1 X.2.1 zd_A_needsDirectly_9 (by decide) (fun _ => ?_) (fun h9 => absurd (by rw [nI_leI (by omega) (by omega)]; omega) h9)
    refine lv_iconst (v := nI 0) X.1 X.2.1 zd_A_needsDirectly_30 (by decide) ?_
    exact z_zret X.1 X.2.1 hr hlocks (Or.inl rfl) (by subst hτ; rw [show cA_needCounts τ n = i by omega, hinv]; rfl) (by rw [hτ]) hP hS zd_A_needsDirectly_31
  | succ j ih =>
    intro i hi τ hτ hinv H locs ls hP hS hl
    have hN : cA_needCounts τ n = cA_needCounts σ n := by rw [hτ]
    have hq := hb (n * 3 + i)
    have hq2 : cA_needs τ (n * 3 + i) < 8 := by rw [hτ]; exact hq
    refine lv_iload_n X.1 X.2.1 zd_A_needsDirectly_2 rfl (lv_at hl 0 rfl) ?_
    refine lv_aload_n X.1 X.2.1 zd_A_needsDirectly_3 rfl (lv_at hl 1 rfl) ?_
    refine g_cA_needCounts X hP zd_A_needsDirectly_4 ?_
    refine lv_iload_n X.1 X.2.1 zd_A_needsDirectly_7 rfl (lv_at hl 2 rfl) ?_
    refine l_cA_needCounts X hP (by omega) zd_A_needsDirectly_8 ?_
    refine lv_icmp_ge (tgt := 30) X.1 X.2.1 zd_A_needsDirectly_9 (by decide) (fun h9 => absurd h9 (by rw [nI_leI (by omega) (by omega)]; omega)) (fun _ => ?_)
    refine lv_aload_n X.1 X.2.1 zd_A_needsDirectly_12 rfl (lv_at hl 1 rfl) ?_
    refine lv_iload_n X.1 X.2.1 zd_A_needsDirectly_13 rfl (lv_at hl 2 rfl) ?_
    refine lv_iload_n X.1 X.2.1 zd_A_needsDirectly_14 rfl (lv_at hl 0 rfl) ?_
    refine z_callVi (As := [.int (nI n), .int (nI i)]) (rest := []) (q0 := 2) (ci := 1) X hml (k_A_needAt l K G A hD τ n i (by omega) (by omega)) (zk_A_40 X.2.2.2.1 (z_rm (by omega) (by decide))) rfl rfl rfl hP hS rfl hl.1 rfl (Nat.le_of_ble_eq_true rfl) zd_A_needsDirectly_15 ⟨Nat.zero_le _, Nat.zero_le _⟩ (fun H locs hP hS => ?_)
    refine lv_iload_n X.1 X.2.1 zd_A_needsDirectly_18 rfl (lv_at hl 3 rfl) ?_
    refine lv_icmp_ne (tgt := 24) X.1 X.2.1 zd_A_needsDirectly_19 (by decide) (fun c1 => ?_) (fun c1 => ?_)
    · rw [nI_eq (by omega) (by omega)] at c1
      refine lv_iinc (v := nI (i + 1)) (lv' := [(3, .int (nI (i + 1))), (0, .ref (G 2)), (1, .int (nI n)), (2, .int (nI o))]) X.1 X.2.1 zd_A_needsDirectly_24 hl (k := 0) rfl (nI_1 _) (by decide) rfl (fun ls hl => ?_)
      refine lv_goto (tgt := 2) X.1 X.2.1 zd_A_needsDirectly_27 (by decide) ?_
      exact ih (i + 1) (by omega) _ hτ (by subst hτ; simp [cDirect, *]) H locs ls hP hS (lv_sub hl [0, 1, 2, 3] rfl)
    · rw [nI_eq (by omega) (by omega)] at c1
      refine lv_iconst (v := nI 1) X.1 X.2.1 zd_A_needsDirectly_22 (by decide) ?_
      exact z_zret X.1 X.2.1 hr hlocks (Or.inr rfl) (by rw [cDirect_mono σ n o (j := i + 1) (by omega) (by subst hτ; simp [cDirect, *])]; rfl) (by rw [hτ]) hP hS zd_A_needsDirectly_23

set_option maxHeartbeats 4000000 in
set_option maxRecDepth 100000 in
/-- Aspects.needsDirectly(n, o) -/
theorem k_A_needsDirectly (l : Launch) (K : zK) (G : Nat → Nat) (A : Nat → Prop) (hD : ∀ σ, va_D A (cW K G σ)) (σ : cS) (n o : Nat) (hn : n < 8) (ho : o < 8) (h3 : cA_needCounts σ n ≤ 3) (hb : ∀ q, cA_needs σ q < 8) : zMet l K A zy_A_needsDirectly zws_A_needsDirectly 1 [.ref (G 2), .int (nI n), .int (nI o)] (cW K G σ) (cW K G σ) (some (.int (nI (b01 (cDirect σ n o (cA_needCounts σ n)))))) := by
  refine z_entry (by decide) (Nat.le_of_ble_eq_true rfl) ?_
  intro p e s m below meth c ls X hr hml hlocks hP hl
  have hS : va_S A s.heap s.heap [] := va_S.rf
  have hl : lv_has ls 4 [(0, .ref (G 2)), (1, .int (nI n)), (2, .int (nI o))] := hl
  refine lv_iconst (v := nI 0) X.1 X.2.1 zd_A_needsDirectly_0 (by decide) ?_
  refine lv_istore_n (lv' := [(3, .int (nI 0)), (0, .ref (G 2)), (1, .int (nI n)), (2, .int (nI o))]) X.1 X.2.1 zd_A_needsDirectly_1 rfl hl (by decide) rfl (fun ls hl => ?_)
  exact q_A_needsDirectly l K G A hD X hr hml hlocks σ n o hn ho h3 hb (cA_needCounts σ n) 0 (Nat.zero_add _) _ rfl rfl s.heap [] ls hP hS (lv_sub hl [0, 1, 2, 3] rfl)

set_option maxHeartbeats 4000000 in
set_option maxRecDepth 100000 in
/-- appendNeed's loop -/
theorem q_A_appendNeed {p : Program} {e : Env} {s : State} {m : MethodId} {args : Array Value} {below : List Frame} {meth : Method} {c : Code} (l : Launch) (K : zK) (G : Nat → Nat) (A : Nat → Prop) (hD : ∀ σ, va_D A (cW K G σ)) (X : zFx K zR_A zb_A_appendNeed p s m args c) (hr : meth.sig.returnType = none) (hml : c.maxLocals = 4) (hlocks : meth.locks = false) (σ : cS) (n o : Nat) (hn : n < 8) (ho : o < 8) (hN0 : cA_opened σ ≤ 8) : ∀ (j i : Nat), i + j = cA_opened σ → ∀ (τ : cS), τ = cReachA σ n o i → ∀ (H : Heap) (locs : List Loc) (ls : Array Slot), va_P K.1 zcl (cW K G τ) H → va_S A s.heap H locs → lv_has ls 4 [(3, .int (nI i)), (0, .ref (G 2)), (1, .int (nI n)), (2, .int (nI o))] → W p l e (zrm 1) s m args below meth c H locs 0 0 (MQ below (zPost K A (cW K G (cReachA σ n o (cA_opened σ))) none) args s 0 0 A) (F0 m 28 ls []) := by
  intro j
  induction j with
  | zero =>
    intro i hi τ hτ H locs ls hP hS hl
    have hN : cA_opened τ = cA_opened σ := by rw [hτ]; exact cReachA_opened σ n o i
    refine lv_iload_n X.1 X.2.1 zd_A_appendNeed_28 rfl (lv_at hl 0 rfl) ?_
    refine lv_aload_n X.1 X.2.1 zd_A_appendNeed_29 rfl (lv_at hl 1 rfl) ?_
    refine g_cA_opened X hP zd_A_appendNeed_30 ?_
    refine z_top (congrArg nI hN) ?_
    refine lv_icmp_ge (tgt := 66) X.1 X.2.1 zd_A_appendNeed_33 (by decide) (fun _ => ?_) (fun h9 => absurd (by rw [nI_leI (by omega) (by omega)]; omega) h9)
    exact z_vret X.1 X.2.1 hr hlocks (by subst hτ; rw [show i = cA_opened σ by omega]) hP hS zd_A_appendNeed_66
  | succ j ih =>
    intro i hi τ hτ H locs ls hP hS hl
    have hN : cA_opened τ = cA_opened σ := by rw [hτ]; exact cReachA_opened σ n o i
    refine lv_iload_n X.1 X.2.1 zd_A_appendNeed_28 rfl (lv_at hl 0 rfl) ?_
    refine lv_aload_n X.1 X.2.1 zd_A_appendNeed_29 rfl (lv_at hl 1 rfl) ?_
    refine g_cA_opened X hP zd_A_appendNeed_30 ?_
    refine z_top (congrArg nI hN) ?_
    refine lv_icmp_ge (tgt := 66) X.1 X.2.1 zd_A_appendNeed_33 (by decide) (fun h9 => absurd h9 (by rw [nI_leI (by omega) (by omega)]; omega)) (fun _ => ?_)
    refine lv_aload_n X.1 X.2.1 zd_A_appendNeed_36 rfl (lv_at hl 1 rfl) ?_
    refine lv_iload_n X.1 X.2.1 zd_A_appendNeed_37 rfl (lv_at hl 0 rfl) ?_
    refine lv_iload_n X.1 X.2.1 zd_A_appendNeed_38 rfl (lv_at hl 2 rfl) ?_
    refine z_callVi (As := [.int (nI i), .int (nI n)]) (rest := []) (q0 := 2) (ci := 1) X hml (k_A_leadsTo l K G A hD τ i n (by omega)) (zk_A_44 X.2.2.2.1 (z_rm (by omega) (by decide))) rfl rfl rfl hP hS rfl hl.1 rfl (Nat.le_of_ble_eq_true rfl) zd_A_appendNeed_39 ⟨Nat.zero_le _, Nat.zero_le _⟩ (fun H locs hP hS => ?_)
    refine lv_if_eq (tgt := 60) X.1 X.2.1 zd_A_appendNeed_42 (by decide) (fun c1 => ?_) (fun c1 => ?_)
    · rw [z_eq0 (cLead_lt _ _)] at c1
      refine lv_iinc (v := nI (i + 1)) (lv' := [(3, .int (nI (i + 1))), (0, .ref (G 2)), (1, .int (nI n)), (2, .int (nI o))]) X.1 X.2.1 zd_A_appendNeed_60 hl (k := 0) rfl (nI_1 _) (by decide) rfl (fun ls hl => ?_)
      refine lv_goto (tgt := 28) X.1 X.2.1 zd_A_appendNeed_63 (by decide) ?_
      exact ih (i + 1) (by omega) _ (by subst hτ; rw [cReachA]; simp [*]) H locs ls hP hS (lv_sub hl [0, 1, 2, 3] rfl)
    · rw [z_eq0 (cLead_lt _ _)] at c1
      refine lv_aload_n X.1 X.2.1 zd_A_appendNeed_45 rfl (lv_at hl 1 rfl) ?_
      refine g_cA_reached X hP zd_A_appendNeed_46 ?_
      refine lv_iload_n X.1 X.2.1 zd_A_appendNeed_49 rfl (lv_at hl 0 rfl) ?_
      refine lv_dup2_11 X.1 X.2.1 zd_A_appendNeed_50 rfl rfl ?_
      refine l_cA_reached X hP (by omega) zd_A_appendNeed_51 ?_
      refine lv_aload_n X.1 X.2.1 zd_A_appendNeed_52 rfl (lv_at hl 1 rfl) ?_
      refine g_cA_reached X hP zd_A_appendNeed_53 ?_
      refine lv_iload_n X.1 X.2.1 zd_A_appendNeed_56 rfl (lv_at hl 3 rfl) ?_
      refine l_cA_reached X hP (by omega) zd_A_appendNeed_57 ?_
      refine lv_ior X.1 X.2.1 zd_A_appendNeed_58 ?_
      refine s_cA_reached X hD hP hS (by omega) zd_A_appendNeed_59 (fun H locs hP hS => ?_)
      have hP : va_P K.1 zcl (cW K G (p_cA_reached τ (upd (cA_reached τ) i ((cA_reached τ i) ||| (cA_reached τ o))))) H := hP
      refine lv_iinc (v := nI (i + 1)) (lv' := [(3, .int (nI (i + 1))), (0, .ref (G 2)), (1, .int (nI n)), (2, .int (nI o))]) X.1 X.2.1 zd_A_appendNeed_60 hl (k := 0) rfl (nI_1 _) (by decide) rfl (fun ls hl => ?_)
      refine lv_goto (tgt := 28) X.1 X.2.1 zd_A_appendNeed_63 (by decide) ?_
      exact ih (i + 1) (by omega) _ (by subst hτ; rw [cReachA]; simp [*]) H locs ls hP hS (lv_sub hl [0, 1, 2, 3] rfl)

set_option maxHeartbeats 4000000 in
set_option maxRecDepth 100000 in
/-- Aspects.appendNeed(n, o) -/
theorem k_A_appendNeed (l : Launch) (K : zK) (G : Nat → Nat) (A : Nat → Prop) (hD : ∀ σ, va_D A (cW K G σ)) (σ : cS) (n o : Nat) (hn : n < 8) (ho : o < 8) (hN0 : cA_opened σ ≤ 8) (h3 : cA_needCounts σ n < 3) : zMet l K A zy_A_appendNeed zws_A_appendNeed 1 [.ref (G 2), .int (nI n), .int (nI o)] (cW K G σ) (cW K G (cAppendNeed σ n o)) none := by
  refine z_entry (by decide) (Nat.le_of_ble_eq_true rfl) ?_
  intro p e s m below meth c ls X hr hml hlocks hP hl
  have hS : va_S A s.heap s.heap [] := va_S.rf
  have hl : lv_has ls 4 [(0, .ref (G 2)), (1, .int (nI n)), (2, .int (nI o))] := hl
  refine lv_aload_n X.1 X.2.1 zd_A_appendNeed_0 rfl (lv_at hl 0 rfl) ?_
  refine g_cA_needs X hP zd_A_appendNeed_1 ?_
  refine lv_iload_n X.1 X.2.1 zd_A_appendNeed_4 rfl (lv_at hl 1 rfl) ?_
  refine lv_iconst (v := nI 3) X.1 X.2.1 zd_A_appendNeed_5 (by decide) ?_
  refine lv_imul X.1 X.2.1 zd_A_appendNeed_6 ?_
  refine z_top (pk_mul _ _) ?_
  refine lv_aload_n X.1 X.2.1 zd_A_appendNeed_7 rfl (lv_at hl 0 rfl) ?_
  refine g_cA_needCounts X hP zd_A_appendNeed_8 ?_
  refine lv_iload_n X.1 X.2.1 zd_A_appendNeed_11 rfl (lv_at hl 1 rfl) ?_
  refine l_cA_needCounts X hP (by omega) zd_A_appendNeed_12 ?_
  refine lv_iadd X.1 X.2.1 zd_A_appendNeed_13 ?_
  refine z_top (nI_add _ _) ?_
  refine lv_iload_n X.1 X.2.1 zd_A_appendNeed_14 rfl (lv_at hl 2 rfl) ?_
  refine s_cA_needs X hD hP hS (by omega) zd_A_appendNeed_15 (fun H locs hP hS => ?_)
  have hP : va_P K.1 zcl (cW K G (p_cA_needs σ (upN (cA_needs σ) ((n * 3) + (cA_needCounts σ n)) o))) H := hP
  refine lv_aload_n X.1 X.2.1 zd_A_appendNeed_16 rfl (lv_at hl 0 rfl) ?_
  refine g_cA_needCounts X hP zd_A_appendNeed_17 ?_
  refine lv_iload_n X.1 X.2.1 zd_A_appendNeed_20 rfl (lv_at hl 1 rfl) ?_
  refine lv_dup2_11 X.1 X.2.1 zd_A_appendNeed_21 rfl rfl ?_
  refine l_cA_needCounts X hP (by omega) zd_A_appendNeed_22 ?_
  refine z_top (y := (nI (cA_needCounts σ n))) rfl ?_
  refine lv_iconst (v := nI 1) X.1 X.2.1 zd_A_appendNeed_23 (by decide) ?_
  refine lv_iadd X.1 X.2.1 zd_A_appendNeed_24 ?_
  refine z_top (nI_add _ _) ?_
  refine s_cA_needCounts X hD hP hS (by omega) zd_A_appendNeed_25 (fun H locs hP hS => ?_)
  have hP : va_P K.1 zcl (cW K G (p_cA_needCounts (p_cA_needs σ (upN (cA_needs σ) ((n * 3) + (cA_needCounts σ n)) o)) (upN (cA_needCounts σ) n ((cA_needCounts σ n) + 1)))) H := hP
  refine lv_iconst (v := nI 0) X.1 X.2.1 zd_A_appendNeed_26 (by decide) ?_
  refine lv_istore_n (lv' := [(3, .int (nI 0)), (0, .ref (G 2)), (1, .int (nI n)), (2, .int (nI o))]) X.1 X.2.1 zd_A_appendNeed_27 rfl hl (by decide) rfl (fun ls hl => ?_)
  exact q_A_appendNeed l K G A hD X hr hml hlocks (cAppendNeed0 σ n o) n o hn ho hN0 (cA_opened σ) 0 (by exact Nat.zero_add _) _ rfl H locs ls hP hS (lv_sub hl [0, 1, 2, 3] rfl)

