/-! contracts of the reference (by program: wip/gen/r1.py) -/
/-- the bounds that the reference keeps -/
def mB (σ : mS) : Prop := mR_targets σ ≤ 20 ∧ mR_aspects σ ≤ 8 ∧ (∀ q, mR_standsFor σ q < 20) ∧ (∀ q, mR_row σ q < 20) ∧ (∀ q, mR_rowSize σ q ≤ 4) ∧ (∀ q, mR_needs σ q < 8) ∧ (∀ q, mR_needMany σ q ≤ 3) ∧ (∀ q, mR_kind σ q ≤ 3) ∧ (∀ q, mR_nameOf σ q = -1 ∨ ∃ n, n < 10 ∧ mR_nameOf σ q = nI n)
/-- and in what changes more often -/
def mC (σ : mS) : Prop := (∀ q, mR_known σ q ≤ 2) ∧ (∀ q, mR_madeBy σ q = -1 ∨ ∃ n, n < 128 ∧ mR_madeBy σ q = nI n) ∧ (∀ q, mR_touched σ q ≤ 1)
def mOwn (σ : mS) (x : Int32) : Nat := if cHas (mR_targets σ) x = 0 then 0 else if mR_standsFor σ x.toNatClampNeg = x.toNatClampNeg then 1 else 0
theorem mOwn_lt (σ : mS) (x : Int32) : mOwn σ x < 2 ^ 31 := by unfold mOwn; split <;> (try split) <;> decide
theorem mOwn_ex {σ : mS} {x : Int32} (ho : mR_targets σ < 2 ^ 31) (h : ¬ mOwn σ x = 0) : ∃ n, n < mR_targets σ ∧ mR_standsFor σ n = n ∧ x = nI n := by
  unfold mOwn at h
  split at h
  · exact absurd rfl h
  · rename_i h1
    obtain ⟨n, hn, rfl⟩ := cHas_ex ho h1
    rw [nI_clamp (by omega)] at h
    split at h
    · rename_i h2
      exact ⟨n, hn, h2, rfl⟩
    · exact absurd rfl h
theorem mOwn_y {σ : mS} {n : Nat} (ho : mR_targets σ < 2 ^ 31) (hn : n < mR_targets σ) (hs : mR_standsFor σ n = n) : mOwn σ (nI n) = 1 := by
  unfold mOwn
  rw [cHas_y hn ho, if_neg (by decide), nI_clamp (by omega), if_pos hs]
def mHi (σ : mS) (t z h : Nat) : Nat → Nat
  | 0 => h
  | j + 1 => if mHi σ t z h j = 0 then (if mR_touched σ (mR_standsFor σ (mR_row σ (12 * t + 4 * z + j))) = 0 then 0 else 1) else 1
def mHo (σ : mS) (t : Nat) : Nat → Nat
  | 0 => 0
  | z + 1 => mHi σ t z (mHo σ t z) (mR_rowSize σ (3 * t + z))
theorem mHi_le {σ : mS} {t z h : Nat} (hh : h ≤ 1) (j : Nat) : mHi σ t z h j ≤ 1 := by
  induction j with
  | zero => exact hh
  | succ j ih => unfold mHi; split <;> (try split) <;> omega
theorem mHo_le (σ : mS) (t z : Nat) : mHo σ t z ≤ 1 := by
  induction z with
  | zero => exact Nat.zero_le 1
  | succ z ih => unfold mHo; exact mHi_le ih _
def mFK (σ : mS) (t : Nat) : Nat → mS
  | 0 => σ
  | i + 1 => p_mR_known (mFK σ t i) (upN (mR_known (mFK σ t i)) (128 * t + i) 0)
def mFM (σ : mS) (t : Nat) : Nat → mS
  | 0 => σ
  | i + 1 => p_mR_madeBy (mFM σ t i) (upd (mR_madeBy (mFM σ t i)) (10 * t + i) (-1))
def mForgetT (σ : mS) (t : Nat) : mS := mFM (mFK σ t 128) t 10
/-- whether u is touched, t being what changed -/
def mTb (σ : mS) (t u : Nat) : Nat := if u = t then 1 else if mR_standsFor σ u = u then (if mHo σ u 3 = 0 then 0 else 1) else 0
theorem mTb_le (σ : mS) (t u : Nat) : mTb σ t u ≤ 1 := by unfold mTb; split <;> (try split) <;> (try split) <;> omega
def mFF (σ : mS) (t : Nat) : Nat → mS
  | 0 => σ
  | u + 1 => if mTb (mFF σ t u) t u = 0 then p_mR_touched (mFF σ t u) (upN (mR_touched (mFF σ t u)) u 0) else mForgetT (p_mR_touched (mFF σ t u) (upN (mR_touched (mFF σ t u)) u 1)) u
def mOpen (σ : mS) (v : Int64) (g : Int32) : mS := p_mR_targets (p_mR_providers (p_mR_value (p_mR_standsFor (p_mR_thrown σ 0) (upN (mR_standsFor σ) (mR_targets σ) (mR_targets σ))) (vp_updL (mR_value σ) (mR_targets σ) v)) (upd (mR_providers σ) (mR_targets σ) g)) (mR_targets σ + 1)
def mOpenAlias (σ : mS) (o : Nat) : mS := p_mR_targets (p_mR_standsFor (p_mR_thrown σ 0) (upN (mR_standsFor σ) (mR_targets σ) (mR_standsFor σ o))) (mR_targets σ + 1)

set_option maxHeartbeats 4000000 in
set_option maxRecDepth 100000 in
/-- thrown() -/
theorem r_thrown (l : Launch) (K : zK) (G : Nat → Nat) (A : Nat → Prop) (hD : ∀ σ, va_D A (mW K G σ)) (σ : mS)  : zMet l K A zy_R_thrown zws_R_thrown 0 [.ref (G 0)] (mW K G σ) (mW K G σ) (some (.int (nI (mR_thrown σ)))) := by
  refine z_entry (by decide) (Nat.le_of_ble_eq_true rfl) ?_
  intro p e s m below meth c ls X hr hml hlocks hP hl
  have hS : va_S A s.heap s.heap [] := va_S.rf
  have hl : lv_has ls 1 [(0, .ref (G 0))] := hl
  refine lv_aload_n X.1 X.2.1 zd_R_thrown_0 rfl (lv_at hl 0 rfl) ?_
  refine g_mR_thrown X hP zd_R_thrown_1 ?_
  exact z_iret X.1 X.2.1 hr hlocks rfl rfl hP hS zd_R_thrown_4

set_option maxHeartbeats 4000000 in
set_option maxRecDepth 100000 in
/-- isTarget(x) -/
theorem r_isTarget (l : Launch) (K : zK) (G : Nat → Nat) (A : Nat → Prop) (hD : ∀ σ, va_D A (mW K G σ)) (σ : mS) (x : Int32) : zMet l K A zy_R_isTarget zws_R_isTarget 0 [.ref (G 0), .int x] (mW K G σ) (mW K G σ) (some (.int (nI (cHas (mR_targets σ) x)))) := by
  refine z_entry (by decide) (Nat.le_of_ble_eq_true rfl) ?_
  intro p e s m below meth c ls X hr hml hlocks hP hl
  have hS : va_S A s.heap s.heap [] := va_S.rf
  have hl : lv_has ls 2 [(0, .ref (G 0)), (1, .int x)] := hl
  refine lv_iload_n X.1 X.2.1 zd_R_isTarget_0 rfl (lv_at hl 1 rfl) ?_
  refine lv_if_lt (tgt := 16) X.1 X.2.1 zd_R_isTarget_1 (by decide) (fun c1 => ?_) (fun c1 => ?_)
  · refine lv_iconst (v := nI 0) X.1 X.2.1 zd_R_isTarget_16 (by decide) ?_
    exact z_zret X.1 X.2.1 hr hlocks (Or.inl rfl) (by simp [cHas, *]) rfl hP hS zd_R_isTarget_17
  · refine lv_iload_n X.1 X.2.1 zd_R_isTarget_4 rfl (lv_at hl 1 rfl) ?_
    refine lv_aload_n X.1 X.2.1 zd_R_isTarget_5 rfl (lv_at hl 0 rfl) ?_
    refine g_mR_targets X hP zd_R_isTarget_6 ?_
    refine lv_icmp_ge (tgt := 16) X.1 X.2.1 zd_R_isTarget_9 (by decide) (fun c2 => ?_) (fun c2 => ?_)
    · refine lv_iconst (v := nI 0) X.1 X.2.1 zd_R_isTarget_16 (by decide) ?_
      exact z_zret X.1 X.2.1 hr hlocks (Or.inl rfl) (by simp [cHas, *]) rfl hP hS zd_R_isTarget_17
    · refine lv_iconst (v := nI 1) X.1 X.2.1 zd_R_isTarget_12 (by decide) ?_
      refine lv_goto (tgt := 17) X.1 X.2.1 zd_R_isTarget_13 (by decide) ?_
      exact z_zret X.1 X.2.1 hr hlocks (Or.inr rfl) (by simp [cHas, *]) rfl hP hS zd_R_isTarget_17

set_option maxHeartbeats 4000000 in
set_option maxRecDepth 100000 in
/-- isAspect(x) -/
theorem r_isAspect (l : Launch) (K : zK) (G : Nat → Nat) (A : Nat → Prop) (hD : ∀ σ, va_D A (mW K G σ)) (σ : mS) (x : Int32) : zMet l K A zy_R_isAspect zws_R_isAspect 0 [.ref (G 0), .int x] (mW K G σ) (mW K G σ) (some (.int (nI (cHas (mR_aspects σ) x)))) := by
  refine z_entry (by decide) (Nat.le_of_ble_eq_true rfl) ?_
  intro p e s m below meth c ls X hr hml hlocks hP hl
  have hS : va_S A s.heap s.heap [] := va_S.rf
  have hl : lv_has ls 2 [(0, .ref (G 0)), (1, .int x)] := hl
  refine lv_iload_n X.1 X.2.1 zd_R_isAspect_0 rfl (lv_at hl 1 rfl) ?_
  refine lv_if_lt (tgt := 16) X.1 X.2.1 zd_R_isAspect_1 (by decide) (fun c1 => ?_) (fun c1 => ?_)
  · refine lv_iconst (v := nI 0) X.1 X.2.1 zd_R_isAspect_16 (by decide) ?_
    exact z_zret X.1 X.2.1 hr hlocks (Or.inl rfl) (by simp [cHas, *]) rfl hP hS zd_R_isAspect_17
  · refine lv_iload_n X.1 X.2.1 zd_R_isAspect_4 rfl (lv_at hl 1 rfl) ?_
    refine lv_aload_n X.1 X.2.1 zd_R_isAspect_5 rfl (lv_at hl 0 rfl) ?_
    refine g_mR_aspects X hP zd_R_isAspect_6 ?_
    refine lv_icmp_ge (tgt := 16) X.1 X.2.1 zd_R_isAspect_9 (by decide) (fun c2 => ?_) (fun c2 => ?_)
    · refine lv_iconst (v := nI 0) X.1 X.2.1 zd_R_isAspect_16 (by decide) ?_
      exact z_zret X.1 X.2.1 hr hlocks (Or.inl rfl) (by simp [cHas, *]) rfl hP hS zd_R_isAspect_17
    · refine lv_iconst (v := nI 1) X.1 X.2.1 zd_R_isAspect_12 (by decide) ?_
      refine lv_goto (tgt := 17) X.1 X.2.1 zd_R_isAspect_13 (by decide) ?_
      exact z_zret X.1 X.2.1 hr hlocks (Or.inr rfl) (by simp [cHas, *]) rfl hP hS zd_R_isAspect_17

set_option maxHeartbeats 4000000 in
set_option maxRecDepth 100000 in
/-- isSetting(x) -/
theorem r_isSetting (l : Launch) (K : zK) (G : Nat → Nat) (A : Nat → Prop) (hD : ∀ σ, va_D A (mW K G σ)) (σ : mS) (x : Int32) : zMet l K A zy_R_isSetting zws_R_isSetting 0 [.int x] (mW K G σ) (mW K G σ) (some (.int (nI (cHas 16 x)))) := by
  refine z_entry (by decide) (Nat.le_of_ble_eq_true rfl) ?_
  intro p e s m below meth c ls X hr hml hlocks hP hl
  have hS : va_S A s.heap s.heap [] := va_S.rf
  have hl : lv_has ls 1 [(0, .int x)] := hl
  refine lv_iload_n X.1 X.2.1 zd_R_isSetting_0 rfl (lv_at hl 0 rfl) ?_
  refine lv_if_lt (tgt := 14) X.1 X.2.1 zd_R_isSetting_1 (by decide) (fun c1 => ?_) (fun c1 => ?_)
  · refine lv_iconst (v := nI 0) X.1 X.2.1 zd_R_isSetting_14 (by decide) ?_
    exact z_zret X.1 X.2.1 hr hlocks (Or.inl rfl) (by simp [cHas, *]) rfl hP hS zd_R_isSetting_15
  · refine lv_iload_n X.1 X.2.1 zd_R_isSetting_4 rfl (lv_at hl 0 rfl) ?_
    refine lv_bipush (v := nI 16) X.1 X.2.1 zd_R_isSetting_5 (by decide) ?_
    refine lv_icmp_ge (tgt := 14) X.1 X.2.1 zd_R_isSetting_7 (by decide) (fun c2 => ?_) (fun c2 => ?_)
    · refine lv_iconst (v := nI 0) X.1 X.2.1 zd_R_isSetting_14 (by decide) ?_
      exact z_zret X.1 X.2.1 hr hlocks (Or.inl rfl) (by simp [cHas, *]) rfl hP hS zd_R_isSetting_15
    · refine lv_iconst (v := nI 1) X.1 X.2.1 zd_R_isSetting_10 (by decide) ?_
      refine lv_goto (tgt := 15) X.1 X.2.1 zd_R_isSetting_11 (by decide) ?_
      exact z_zret X.1 X.2.1 hr hlocks (Or.inr rfl) (by simp [cHas, *]) rfl hP hS zd_R_isSetting_15

set_option maxHeartbeats 4000000 in
set_option maxRecDepth 100000 in
/-- placeOf(t, a, k) -/
theorem r_placeOf (l : Launch) (K : zK) (G : Nat → Nat) (A : Nat → Prop) (hD : ∀ σ, va_D A (mW K G σ)) (σ : mS) (t a k : Nat) : zMet l K A zy_R_placeOf zws_R_placeOf 0 [.int (nI t), .int (nI a), .int (nI k)] (mW K G σ) (mW K G σ) (some (.int (nI ((t * 8 + a) * 16 + k)))) := by
  refine z_entry (by decide) (Nat.le_of_ble_eq_true rfl) ?_
  intro p e s m below meth c ls X hr hml hlocks hP hl
  have hS : va_S A s.heap s.heap [] := va_S.rf
  have hl : lv_has ls 3 [(0, .int (nI t)), (1, .int (nI a)), (2, .int (nI k))] := hl
  refine lv_iload_n X.1 X.2.1 zd_R_placeOf_0 rfl (lv_at hl 0 rfl) ?_
  refine lv_bipush (v := nI 8) X.1 X.2.1 zd_R_placeOf_1 (by decide) ?_
  refine lv_imul X.1 X.2.1 zd_R_placeOf_3 ?_
  refine z_top (pk_mul _ _) ?_
  refine lv_iload_n X.1 X.2.1 zd_R_placeOf_4 rfl (lv_at hl 1 rfl) ?_
  refine lv_iadd X.1 X.2.1 zd_R_placeOf_5 ?_
  refine z_top (nI_add _ _) ?_
  refine lv_bipush (v := nI 16) X.1 X.2.1 zd_R_placeOf_6 (by decide) ?_
  refine lv_imul X.1 X.2.1 zd_R_placeOf_8 ?_
  refine z_top (pk_mul _ _) ?_
  refine lv_iload_n X.1 X.2.1 zd_R_placeOf_9 rfl (lv_at hl 2 rfl) ?_
  refine lv_iadd X.1 X.2.1 zd_R_placeOf_10 ?_
  refine z_top (nI_add _ _) ?_
  exact z_iret X.1 X.2.1 hr hlocks rfl rfl hP hS zd_R_placeOf_11

set_option maxHeartbeats 4000000 in
set_option maxRecDepth 100000 in
/-- isOwn(x) -/
theorem r_isOwn (l : Launch) (K : zK) (G : Nat → Nat) (A : Nat → Prop) (hD : ∀ σ, va_D A (mW K G σ)) (σ : mS) (x : Int32) (hB : mB σ) : zMet l K A zy_R_isOwn zws_R_isOwn 1 [.ref (G 0), .int x] (mW K G σ) (mW K G σ) (some (.int (nI (mOwn σ x)))) := by
  have hBo := hB.1
  refine z_entry (by decide) (Nat.le_of_ble_eq_true rfl) ?_
  intro p e s m below meth c ls X hr hml hlocks hP hl
  have hS : va_S A s.heap s.heap [] := va_S.rf
  have hl : lv_has ls 2 [(0, .ref (G 0)), (1, .int x)] := hl
  refine lv_aload_n X.1 X.2.1 zd_R_isOwn_0 rfl (lv_at hl 0 rfl) ?_
  refine lv_iload_n X.1 X.2.1 zd_R_isOwn_1 rfl (lv_at hl 1 rfl) ?_
  refine z_callVi (As := [.int x]) (rest := []) (q0 := 0) (ci := 4) X hml (r_isTarget l K G A hD σ x) (zk_R_82 X.2.2.2.1 (z_rm (by omega) (by decide))) rfl rfl rfl hP hS rfl hl.1 rfl (Nat.le_of_ble_eq_true rfl) zd_R_isOwn_2 ⟨Nat.zero_le _, Nat.zero_le _⟩ (fun H locs hP hS => ?_)
  refine lv_if_eq (tgt := 22) X.1 X.2.1 zd_R_isOwn_5 (by decide) (fun c1 => ?_) (fun c1 => ?_)
  · rw [z_eq0 (cHas_lt _ _)] at c1
    refine lv_iconst (v := nI 0) X.1 X.2.1 zd_R_isOwn_22 (by decide) ?_
    exact z_zret X.1 X.2.1 hr hlocks (Or.inl rfl) (by simp [mOwn, *]) rfl hP hS zd_R_isOwn_23
  · rw [z_eq0 (cHas_lt _ _)] at c1
    obtain ⟨n, hn, rfl⟩ := cHas_ex (by omega) c1
    have hn20 := hB.2.2.1 n
    have hcl := nI_clamp (n := n) (by omega)
    refine lv_aload_n X.1 X.2.1 zd_R_isOwn_8 rfl (lv_at hl 0 rfl) ?_
    refine g_mR_standsFor X hP zd_R_isOwn_9 ?_
    refine lv_iload_n X.1 X.2.1 zd_R_isOwn_12 rfl (lv_at hl 1 rfl) ?_
    refine l_mR_standsFor X hP (by omega) zd_R_isOwn_13 ?_
    refine lv_iload_n X.1 X.2.1 zd_R_isOwn_14 rfl (lv_at hl 1 rfl) ?_
    refine lv_icmp_ne (tgt := 22) X.1 X.2.1 zd_R_isOwn_15 (by decide) (fun c2 => ?_) (fun c2 => ?_)
    · rw [nI_eq (by omega) (by omega)] at c2
      refine lv_iconst (v := nI 0) X.1 X.2.1 zd_R_isOwn_22 (by decide) ?_
      exact z_zret X.1 X.2.1 hr hlocks (Or.inl rfl) (by simp [mOwn, *]) rfl hP hS zd_R_isOwn_23
    · rw [nI_eq (by omega) (by omega)] at c2
      refine lv_iconst (v := nI 1) X.1 X.2.1 zd_R_isOwn_18 (by decide) ?_
      refine lv_goto (tgt := 23) X.1 X.2.1 zd_R_isOwn_19 (by decide) ?_
      exact z_zret X.1 X.2.1 hr hlocks (Or.inr rfl) (by simp [mOwn, *]) rfl hP hS zd_R_isOwn_23

set_option maxHeartbeats 4000000 in
set_option maxRecDepth 100000 in
/-- target: a new one -/
theorem r_target_1 (l : Launch) (K : zK) (G : Nat → Nat) (A : Nat → Prop) (hD : ∀ σ, va_D A (mW K G σ)) (σ : mS) (v : Int64) (g : Int32) (hB : mB σ) (ho : mR_targets σ < 20) : zMet l K A zy_R_target zws_R_target 1 [.ref (G 0), .long v, .int g] (mW K G σ) (mW K G (mOpen σ v (g &&& nI 255))) (some (.int (nI (mR_targets σ)))) := by
  refine z_entry (by decide) (Nat.le_of_ble_eq_true rfl) ?_
  intro p e s m below meth c ls X hr hml hlocks hP hl
  have hS : va_S A s.heap s.heap [] := va_S.rf
  have hl : lv_has ls 4 [(0, .ref (G 0)), (1, .long v), (3, .int g)] := hl
  refine lv_aload_n X.1 X.2.1 zd_R_target_0 rfl (lv_at hl 0 rfl) ?_
  refine lv_iconst (v := nI 0) X.1 X.2.1 zd_R_target_1 (by decide) ?_
  refine s_mR_thrown X hD hP hS zd_R_target_2 (fun H locs hP hS => ?_)
  have hP : va_P K.1 zcl (mW K G (p_mR_thrown σ 0)) H := hP
  refine lv_aload_n X.1 X.2.1 zd_R_target_5 rfl (lv_at hl 0 rfl) ?_
  refine g_mR_targets X hP zd_R_target_6 ?_
  refine z_top (y := (nI (mR_targets σ))) rfl ?_
  refine lv_bipush (v := nI 20) X.1 X.2.1 zd_R_target_9 (by decide) ?_
  refine lv_icmp_ne (tgt := 16) X.1 X.2.1 zd_R_target_11 (by decide) (fun _ => ?_) (fun h9 => absurd h9 (by rw [nI_eq (by omega) (by omega)]; omega))
  refine lv_aload_n X.1 X.2.1 zd_R_target_16 rfl (lv_at hl 0 rfl) ?_
  refine g_mR_standsFor X hP zd_R_target_17 ?_
  refine lv_aload_n X.1 X.2.1 zd_R_target_20 rfl (lv_at hl 0 rfl) ?_
  refine g_mR_targets X hP zd_R_target_21 ?_
  refine z_top (y := (nI (mR_targets σ))) rfl ?_
  refine lv_aload_n X.1 X.2.1 zd_R_target_24 rfl (lv_at hl 0 rfl) ?_
  refine g_mR_targets X hP zd_R_target_25 ?_
  refine z_top (y := (nI (mR_targets σ))) rfl ?_
  refine s_mR_standsFor X hD hP hS (by omega) zd_R_target_28 (fun H locs hP hS => ?_)
  have hP : va_P K.1 zcl (mW K G (p_mR_standsFor (p_mR_thrown σ 0) (upN (mR_standsFor σ) (mR_targets σ) (mR_targets σ)))) H := hP
  refine lv_aload_n X.1 X.2.1 zd_R_target_29 rfl (lv_at hl 0 rfl) ?_
  refine g_mR_value X hP zd_R_target_30 ?_
  refine lv_aload_n X.1 X.2.1 zd_R_target_33 rfl (lv_at hl 0 rfl) ?_
  refine g_mR_targets X hP zd_R_target_34 ?_
  refine z_top (y := (nI (mR_targets σ))) rfl ?_
  refine lv_lload_n X.1 X.2.1 zd_R_target_37 rfl (lv_at hl 1 rfl) ?_
  refine s_mR_value X hD hP hS (by omega) zd_R_target_38 (fun H locs hP hS => ?_)
  have hP : va_P K.1 zcl (mW K G (p_mR_value (p_mR_standsFor (p_mR_thrown σ 0) (upN (mR_standsFor σ) (mR_targets σ) (mR_targets σ))) (vp_updL (mR_value σ) (mR_targets σ) v))) H := hP
  refine lv_aload_n X.1 X.2.1 zd_R_target_39 rfl (lv_at hl 0 rfl) ?_
  refine g_mR_providers X hP zd_R_target_40 ?_
  refine lv_aload_n X.1 X.2.1 zd_R_target_43 rfl (lv_at hl 0 rfl) ?_
  refine g_mR_targets X hP zd_R_target_44 ?_
  refine z_top (y := (nI (mR_targets σ))) rfl ?_
  refine lv_iload_n X.1 X.2.1 zd_R_target_47 rfl (lv_at hl 2 rfl) ?_
  refine lv_sipush (v := nI 255) X.1 X.2.1 zd_R_target_48 (by decide) ?_
  refine lv_iand X.1 X.2.1 zd_R_target_51 ?_
  refine s_mR_providers X hD hP hS (by omega) zd_R_target_52 (fun H locs hP hS => ?_)
  have hP : va_P K.1 zcl (mW K G (p_mR_providers (p_mR_value (p_mR_standsFor (p_mR_thrown σ 0) (upN (mR_standsFor σ) (mR_targets σ) (mR_targets σ))) (vp_updL (mR_value σ) (mR_targets σ) v)) (upd (mR_providers σ) (mR_targets σ) (g &&& (nI 255))))) H := hP
  refine lv_aload_n X.1 X.2.1 zd_R_target_53 rfl (lv_at hl 0 rfl) ?_
  refine lv_dup X.1 X.2.1 zd_R_target_54 rfl ?_
  refine g_mR_targets X hP zd_R_target_55 ?_
  refine z_top (y := (nI (mR_targets σ))) rfl ?_
  refine lv_iconst (v := nI 1) X.1 X.2.1 zd_R_target_58 (by decide) ?_
  refine lv_iadd X.1 X.2.1 zd_R_target_59 ?_
  refine z_top (nI_add _ _) ?_
  refine s_mR_targets X hD hP hS zd_R_target_60 (fun H locs hP hS => ?_)
  have hP : va_P K.1 zcl (mW K G (p_mR_targets (p_mR_providers (p_mR_value (p_mR_standsFor (p_mR_thrown σ 0) (upN (mR_standsFor σ) (mR_targets σ) (mR_targets σ))) (vp_updL (mR_value σ) (mR_targets σ) v)) (upd (mR_providers σ) (mR_targets σ) (g &&& (nI 255)))) ((mR_targets σ) + 1))) H := hP
  refine lv_aload_n X.1 X.2.1 zd_R_target_63 rfl (lv_at hl 0 rfl) ?_
  refine g_mR_targets X hP zd_R_target_64 ?_
  refine z_top (y := (nI ((mR_targets σ) + 1))) rfl ?_
  refine lv_iconst (v := nI 1) X.1 X.2.1 zd_R_target_67 (by decide) ?_
  refine lv_isub X.1 X.2.1 zd_R_target_68 ?_
  refine z_top (pk_sub (by omega)) ?_
  exact z_iret X.1 X.2.1 hr hlocks rfl rfl hP hS zd_R_target_69

set_option maxHeartbeats 4000000 in
set_option maxRecDepth 100000 in
/-- target: full -/
theorem r_target_0 (l : Launch) (K : zK) (G : Nat → Nat) (A : Nat → Prop) (hD : ∀ σ, va_D A (mW K G σ)) (σ : mS) (v : Int64) (g : Int32) (hB : mB σ) (ho : mR_targets σ = 20) : zMet l K A zy_R_target zws_R_target 1 [.ref (G 0), .long v, .int g] (mW K G σ) (mW K G (p_mR_thrown σ 0)) (some (.int (-1))) := by
  refine z_entry (by decide) (Nat.le_of_ble_eq_true rfl) ?_
  intro p e s m below meth c ls X hr hml hlocks hP hl
  have hS : va_S A s.heap s.heap [] := va_S.rf
  have hl : lv_has ls 4 [(0, .ref (G 0)), (1, .long v), (3, .int g)] := hl
  refine lv_aload_n X.1 X.2.1 zd_R_target_0 rfl (lv_at hl 0 rfl) ?_
  refine lv_iconst (v := nI 0) X.1 X.2.1 zd_R_target_1 (by decide) ?_
  refine s_mR_thrown X hD hP hS zd_R_target_2 (fun H locs hP hS => ?_)
  have hP : va_P K.1 zcl (mW K G (p_mR_thrown σ 0)) H := hP
  refine lv_aload_n X.1 X.2.1 zd_R_target_5 rfl (lv_at hl 0 rfl) ?_
  refine g_mR_targets X hP zd_R_target_6 ?_
  refine z_top (y := (nI (mR_targets σ))) rfl ?_
  refine lv_bipush (v := nI 20) X.1 X.2.1 zd_R_target_9 (by decide) ?_
  refine lv_icmp_ne (tgt := 16) X.1 X.2.1 zd_R_target_11 (by decide) (fun h9 => absurd (by rw [nI_eq (by omega) (by omega)]; omega) h9) (fun _ => ?_)
  refine lv_iconst (v := -1) X.1 X.2.1 zd_R_target_14 (by decide) ?_
  exact z_iret X.1 X.2.1 hr hlocks rfl rfl hP hS zd_R_target_15

set_option maxHeartbeats 4000000 in
set_option maxRecDepth 100000 in
/-- alias: none such -/
theorem r_alias_n (l : Launch) (K : zK) (G : Nat → Nat) (A : Nat → Prop) (hD : ∀ σ, va_D A (mW K G σ)) (σ : mS) (x : Int32) (hB : mB σ) (hx : cHas (mR_targets σ) x = 0) : zMet l K A zy_R_alias zws_R_alias 1 [.ref (G 0), .int x] (mW K G σ) (mW K G (p_mR_thrown σ 0)) (some (.int (-1))) := by
  have hBo := hB.1
  refine z_entry (by decide) (Nat.le_of_ble_eq_true rfl) ?_
  intro p e s m below meth c ls X hr hml hlocks hP hl
  have hS : va_S A s.heap s.heap [] := va_S.rf
  have hl : lv_has ls 2 [(0, .ref (G 0)), (1, .int x)] := hl
  refine lv_aload_n X.1 X.2.1 zd_R_alias_0 rfl (lv_at hl 0 rfl) ?_
  refine lv_iconst (v := nI 0) X.1 X.2.1 zd_R_alias_1 (by decide) ?_
  refine s_mR_thrown X hD hP hS zd_R_alias_2 (fun H locs hP hS => ?_)
  have hP : va_P K.1 zcl (mW K G (p_mR_thrown σ 0)) H := hP
  refine lv_aload_n X.1 X.2.1 zd_R_alias_5 rfl (lv_at hl 0 rfl) ?_
  refine g_mR_targets X hP zd_R_alias_6 ?_
  refine z_top (y := (nI (mR_targets σ))) rfl ?_
  refine lv_bipush (v := nI 20) X.1 X.2.1 zd_R_alias_9 (by decide) ?_
  refine lv_icmp_eq (tgt := 22) X.1 X.2.1 zd_R_alias_11 (by decide) (fun c1 => ?_) (fun c1 => ?_)
  · rw [nI_eq (by omega) (by omega)] at c1
    refine lv_iconst (v := -1) X.1 X.2.1 zd_R_alias_22 (by decide) ?_
    exact z_iret X.1 X.2.1 hr hlocks rfl rfl hP hS zd_R_alias_23
  · rw [nI_eq (by omega) (by omega)] at c1
    refine lv_aload_n X.1 X.2.1 zd_R_alias_14 rfl (lv_at hl 0 rfl) ?_
    refine lv_iload_n X.1 X.2.1 zd_R_alias_15 rfl (lv_at hl 1 rfl) ?_
    refine z_callVi (As := [.int x]) (rest := []) (q0 := 0) (ci := 4) X hml (r_isTarget l K G A hD (p_mR_thrown σ 0) x) (zk_R_82 X.2.2.2.1 (z_rm (by omega) (by decide))) rfl rfl rfl hP hS rfl hl.1 rfl (Nat.le_of_ble_eq_true rfl) zd_R_alias_16 ⟨Nat.zero_le _, Nat.zero_le _⟩ (fun H locs hP hS => ?_)
    refine lv_if_ne (tgt := 24) X.1 X.2.1 zd_R_alias_19 (by decide) (fun h9 => absurd (by show nI (cHas (mR_targets σ) x) = 0; rw [hx]; rfl) h9) (fun _ => ?_)
    refine lv_iconst (v := -1) X.1 X.2.1 zd_R_alias_22 (by decide) ?_
    exact z_iret X.1 X.2.1 hr hlocks rfl rfl hP hS zd_R_alias_23

set_option maxHeartbeats 4000000 in
set_option maxRecDepth 100000 in
/-- alias: a new one -/
theorem r_alias_1 (l : Launch) (K : zK) (G : Nat → Nat) (A : Nat → Prop) (hD : ∀ σ, va_D A (mW K G σ)) (σ : mS) (n : Nat) (hB : mB σ) (hn : n < mR_targets σ) (ho : mR_targets σ < 20) : zMet l K A zy_R_alias zws_R_alias 1 [.ref (G 0), .int (nI n)] (mW K G σ) (mW K G (mOpenAlias σ n)) (some (.int (nI (mR_targets σ)))) := by
  have hBo := hB.1
  refine z_entry (by decide) (Nat.le_of_ble_eq_true rfl) ?_
  intro p e s m below meth c ls X hr hml hlocks hP hl
  have hS : va_S A s.heap s.heap [] := va_S.rf
  have hl : lv_has ls 2 [(0, .ref (G 0)), (1, .int (nI n))] := hl
  refine lv_aload_n X.1 X.2.1 zd_R_alias_0 rfl (lv_at hl 0 rfl) ?_
  refine lv_iconst (v := nI 0) X.1 X.2.1 zd_R_alias_1 (by decide) ?_
  refine s_mR_thrown X hD hP hS zd_R_alias_2 (fun H locs hP hS => ?_)
  have hP : va_P K.1 zcl (mW K G (p_mR_thrown σ 0)) H := hP
  refine lv_aload_n X.1 X.2.1 zd_R_alias_5 rfl (lv_at hl 0 rfl) ?_
  refine g_mR_targets X hP zd_R_alias_6 ?_
  refine z_top (y := (nI (mR_targets σ))) rfl ?_
  refine lv_bipush (v := nI 20) X.1 X.2.1 zd_R_alias_9 (by decide) ?_
  refine lv_icmp_eq (tgt := 22) X.1 X.2.1 zd_R_alias_11 (by decide) (fun h9 => absurd h9 (by rw [nI_eq (by omega) (by omega)]; omega)) (fun _ => ?_)
  refine lv_aload_n X.1 X.2.1 zd_R_alias_14 rfl (lv_at hl 0 rfl) ?_
  refine lv_iload_n X.1 X.2.1 zd_R_alias_15 rfl (lv_at hl 1 rfl) ?_
  refine z_callVi (As := [.int (nI n)]) (rest := []) (q0 := 0) (ci := 4) X hml (r_isTarget l K G A hD (p_mR_thrown σ 0) (nI n)) (zk_R_82 X.2.2.2.1 (z_rm (by omega) (by decide))) rfl rfl rfl hP hS rfl hl.1 rfl (Nat.le_of_ble_eq_true rfl) zd_R_alias_16 ⟨Nat.zero_le _, Nat.zero_le _⟩ (fun H locs hP hS => ?_)
  refine lv_if_ne (tgt := 24) X.1 X.2.1 zd_R_alias_19 (by decide) (fun _ => ?_) (fun h9 => absurd h9 (by show ¬ nI (cHas (mR_targets σ) _) = 0; rw [cHas_y hn (by omega)]; decide))
  refine lv_aload_n X.1 X.2.1 zd_R_alias_24 rfl (lv_at hl 0 rfl) ?_
  refine g_mR_standsFor X hP zd_R_alias_25 ?_
  refine lv_aload_n X.1 X.2.1 zd_R_alias_28 rfl (lv_at hl 0 rfl) ?_
  refine g_mR_targets X hP zd_R_alias_29 ?_
  refine z_top (y := (nI (mR_targets σ))) rfl ?_
  refine lv_aload_n X.1 X.2.1 zd_R_alias_32 rfl (lv_at hl 0 rfl) ?_
  refine g_mR_standsFor X hP zd_R_alias_33 ?_
  refine lv_iload_n X.1 X.2.1 zd_R_alias_36 rfl (lv_at hl 1 rfl) ?_
  refine l_mR_standsFor X hP (by omega) zd_R_alias_37 ?_
  refine z_top (y := (nI (mR_standsFor σ n))) rfl ?_
  refine s_mR_standsFor X hD hP hS (by omega) zd_R_alias_38 (fun H locs hP hS => ?_)
  have hP : va_P K.1 zcl (mW K G (p_mR_standsFor (p_mR_thrown σ 0) (upN (mR_standsFor σ) (mR_targets σ) (mR_standsFor σ n)))) H := hP
  refine lv_aload_n X.1 X.2.1 zd_R_alias_39 rfl (lv_at hl 0 rfl) ?_
  refine lv_dup X.1 X.2.1 zd_R_alias_40 rfl ?_
  refine g_mR_targets X hP zd_R_alias_41 ?_
  refine z_top (y := (nI (mR_targets σ))) rfl ?_
  refine lv_iconst (v := nI 1) X.1 X.2.1 zd_R_alias_44 (by decide) ?_
  refine lv_iadd X.1 X.2.1 zd_R_alias_45 ?_
  refine z_top (nI_add _ _) ?_
  refine s_mR_targets X hD hP hS zd_R_alias_46 (fun H locs hP hS => ?_)
  have hP : va_P K.1 zcl (mW K G (p_mR_targets (p_mR_standsFor (p_mR_thrown σ 0) (upN (mR_standsFor σ) (mR_targets σ) (mR_standsFor σ n))) ((mR_targets σ) + 1))) H := hP
  refine lv_aload_n X.1 X.2.1 zd_R_alias_49 rfl (lv_at hl 0 rfl) ?_
  refine g_mR_targets X hP zd_R_alias_50 ?_
  refine z_top (y := (nI ((mR_targets σ) + 1))) rfl ?_
  refine lv_iconst (v := nI 1) X.1 X.2.1 zd_R_alias_53 (by decide) ?_
  refine lv_isub X.1 X.2.1 zd_R_alias_54 ?_
  refine z_top (pk_sub (by omega)) ?_
  exact z_iret X.1 X.2.1 hr hlocks rfl rfl hP hS zd_R_alias_55

set_option maxHeartbeats 4000000 in
set_option maxRecDepth 100000 in
/-- alias: full -/
theorem r_alias_0 (l : Launch) (K : zK) (G : Nat → Nat) (A : Nat → Prop) (hD : ∀ σ, va_D A (mW K G σ)) (σ : mS) (n : Nat) (hB : mB σ) (hn : n < mR_targets σ) (ho : mR_targets σ = 20) : zMet l K A zy_R_alias zws_R_alias 1 [.ref (G 0), .int (nI n)] (mW K G σ) (mW K G (p_mR_thrown σ 0)) (some (.int (-1))) := by
  refine z_entry (by decide) (Nat.le_of_ble_eq_true rfl) ?_
  intro p e s m below meth c ls X hr hml hlocks hP hl
  have hS : va_S A s.heap s.heap [] := va_S.rf
  have hl : lv_has ls 2 [(0, .ref (G 0)), (1, .int (nI n))] := hl
  refine lv_aload_n X.1 X.2.1 zd_R_alias_0 rfl (lv_at hl 0 rfl) ?_
  refine lv_iconst (v := nI 0) X.1 X.2.1 zd_R_alias_1 (by decide) ?_
  refine s_mR_thrown X hD hP hS zd_R_alias_2 (fun H locs hP hS => ?_)
  have hP : va_P K.1 zcl (mW K G (p_mR_thrown σ 0)) H := hP
  refine lv_aload_n X.1 X.2.1 zd_R_alias_5 rfl (lv_at hl 0 rfl) ?_
  refine g_mR_targets X hP zd_R_alias_6 ?_
  refine z_top (y := (nI (mR_targets σ))) rfl ?_
  refine lv_bipush (v := nI 20) X.1 X.2.1 zd_R_alias_9 (by decide) ?_
  refine lv_icmp_eq (tgt := 22) X.1 X.2.1 zd_R_alias_11 (by decide) (fun _ => ?_) (fun h9 => absurd (by rw [nI_eq (by omega) (by omega)]; omega) h9)
  refine lv_iconst (v := -1) X.1 X.2.1 zd_R_alias_22 (by decide) ?_
  exact z_iret X.1 X.2.1 hr hlocks rfl rfl hP hS zd_R_alias_23

set_option maxHeartbeats 4000000 in
set_option maxRecDepth 100000 in
/-- stands: none such -/
theorem r_stands_n (l : Launch) (K : zK) (G : Nat → Nat) (A : Nat → Prop) (hD : ∀ σ, va_D A (mW K G σ)) (σ : mS) (x : Int32) (hB : mB σ) (hx : cHas (mR_targets σ) x = 0) : zMet l K A zy_R_stands zws_R_stands 1 [.ref (G 0), .int x] (mW K G σ) (mW K G (p_mR_thrown σ 0)) (some (.int (-1))) := by
  refine z_entry (by decide) (Nat.le_of_ble_eq_true rfl) ?_
  intro p e s m below meth c ls X hr hml hlocks hP hl
  have hS : va_S A s.heap s.heap [] := va_S.rf
  have hl : lv_has ls 2 [(0, .ref (G 0)), (1, .int x)] := hl
  refine lv_aload_n X.1 X.2.1 zd_R_stands_0 rfl (lv_at hl 0 rfl) ?_
  refine lv_iconst (v := nI 0) X.1 X.2.1 zd_R_stands_1 (by decide) ?_
  refine s_mR_thrown X hD hP hS zd_R_stands_2 (fun H locs hP hS => ?_)
  have hP : va_P K.1 zcl (mW K G (p_mR_thrown σ 0)) H := hP
  refine lv_aload_n X.1 X.2.1 zd_R_stands_5 rfl (lv_at hl 0 rfl) ?_
  refine lv_iload_n X.1 X.2.1 zd_R_stands_6 rfl (lv_at hl 1 rfl) ?_
  refine z_callVi (As := [.int x]) (rest := []) (q0 := 0) (ci := 4) X hml (r_isTarget l K G A hD (p_mR_thrown σ 0) x) (zk_R_82 X.2.2.2.1 (z_rm (by omega) (by decide))) rfl rfl rfl hP hS rfl hl.1 rfl (Nat.le_of_ble_eq_true rfl) zd_R_stands_7 ⟨Nat.zero_le _, Nat.zero_le _⟩ (fun H locs hP hS => ?_)
  refine lv_if_eq (tgt := 22) X.1 X.2.1 zd_R_stands_10 (by decide) (fun _ => ?_) (fun h9 => absurd (by show nI (cHas (mR_targets σ) x) = 0; rw [hx]; rfl) h9)
  refine lv_iconst (v := -1) X.1 X.2.1 zd_R_stands_22 (by decide) ?_
  exact z_iret X.1 X.2.1 hr hlocks rfl rfl hP hS zd_R_stands_23

set_option maxHeartbeats 4000000 in
set_option maxRecDepth 100000 in
/-- stands -/
theorem r_stands_1 (l : Launch) (K : zK) (G : Nat → Nat) (A : Nat → Prop) (hD : ∀ σ, va_D A (mW K G σ)) (σ : mS) (n : Nat) (hB : mB σ) (hn : n < mR_targets σ) : zMet l K A zy_R_stands zws_R_stands 1 [.ref (G 0), .int (nI n)] (mW K G σ) (mW K G (p_mR_thrown σ 0)) (some (.int (nI (mR_standsFor σ n)))) := by
  have hBo := hB.1
  refine z_entry (by decide) (Nat.le_of_ble_eq_true rfl) ?_
  intro p e s m below meth c ls X hr hml hlocks hP hl
  have hS : va_S A s.heap s.heap [] := va_S.rf
  have hl : lv_has ls 2 [(0, .ref (G 0)), (1, .int (nI n))] := hl
  refine lv_aload_n X.1 X.2.1 zd_R_stands_0 rfl (lv_at hl 0 rfl) ?_
  refine lv_iconst (v := nI 0) X.1 X.2.1 zd_R_stands_1 (by decide) ?_
  refine s_mR_thrown X hD hP hS zd_R_stands_2 (fun H locs hP hS => ?_)
  have hP : va_P K.1 zcl (mW K G (p_mR_thrown σ 0)) H := hP
  refine lv_aload_n X.1 X.2.1 zd_R_stands_5 rfl (lv_at hl 0 rfl) ?_
  refine lv_iload_n X.1 X.2.1 zd_R_stands_6 rfl (lv_at hl 1 rfl) ?_
  refine z_callVi (As := [.int (nI n)]) (rest := []) (q0 := 0) (ci := 4) X hml (r_isTarget l K G A hD (p_mR_thrown σ 0) (nI n)) (zk_R_82 X.2.2.2.1 (z_rm (by omega) (by decide))) rfl rfl rfl hP hS rfl hl.1 rfl (Nat.le_of_ble_eq_true rfl) zd_R_stands_7 ⟨Nat.zero_le _, Nat.zero_le _⟩ (fun H locs hP hS => ?_)
  refine lv_if_eq (tgt := 22) X.1 X.2.1 zd_R_stands_10 (by decide) (fun h9 => absurd h9 (by show ¬ nI (cHas (mR_targets σ) _) = 0; rw [cHas_y hn (by omega)]; decide)) (fun _ => ?_)
  refine lv_aload_n X.1 X.2.1 zd_R_stands_13 rfl (lv_at hl 0 rfl) ?_
  refine g_mR_standsFor X hP zd_R_stands_14 ?_
  refine lv_iload_n X.1 X.2.1 zd_R_stands_17 rfl (lv_at hl 1 rfl) ?_
  refine l_mR_standsFor X hP (by omega) zd_R_stands_18 ?_
  refine z_top (y := (nI (mR_standsFor σ n))) rfl ?_
  refine lv_goto (tgt := 23) X.1 X.2.1 zd_R_stands_19 (by decide) ?_
  exact z_iret X.1 X.2.1 hr hlocks rfl rfl hP hS zd_R_stands_23

set_option maxHeartbeats 4000000 in
set_option maxRecDepth 100000 in
/-- hasTouched's inner loop -/
theorem q_R_hasTouched_i {p : Program} {e : Env} {s : State} {m : MethodId} {args : Array Value} {below : List Frame} {meth : Method} {c : Code} {Q : State → Prop} (l : Launch) (K : zK) (G : Nat → Nat) (A : Nat → Prop) (hD : ∀ σ, va_D A (mW K G σ)) (X : zFx K zR_R zb_R_hasTouched p s m args c) (hr : meth.sig.returnType = (some .boolean)) (hml : c.maxLocals = 5) (hlocks : meth.locks = false) (σ : mS) (t z h : Nat) (ht : t < 20) (hz : z < 3) (hh : h ≤ 1) (hB : mB σ) (hT1 : ∀ q, mR_touched σ q ≤ 1) (kont : ∀ (H : Heap) (locs : List Loc) (ls : Array Slot), va_P K.1 zcl (mW K G σ) H → va_S A s.heap H locs → lv_has ls 5 [(2, .int (nI (mHi σ t z h (mR_rowSize σ (3 * t + z))))), (3, .int (nI z)), (0, .ref (G 0)), (1, .int (nI t))] → W p l e (zrm 0) s m args below meth c H locs 0 0 Q (F0 m 72 ls [])) : ∀ (j i : Nat), i + j = mR_rowSize σ (3 * t + z) → ∀ (H : Heap) (locs : List Loc) (ls : Array Slot), va_P K.1 zcl (mW K G σ) H → va_S A s.heap H locs → lv_has ls 5 [(4, .int (nI i)), (2, .int (nI (mHi σ t z h i))), (3, .int (nI z)), (0, .ref (G 0)), (1, .int (nI t))] → W p l e (zrm 0) s m args below meth c H locs 0 0 Q (F0 m 12 ls []) := by
  intro j
  induction j with
  | zero =>
    intro i hi H locs ls hP hS hl
    have hle := mHi_le (σ := σ) (t := t) (z := z) hh i
    have hr4 := hB.2.2.2.2.1 (3 * t + z)
    have hrw := hB.2.2.2.1 (12 * t + 4 * z + i)
    have hst := hB.2.2.1 (mR_row σ (12 * t + 4 * z + i))
    have htc := hT1 (mR_standsFor σ (mR_row σ (12 * t + 4 * z + i)))
    refine lv_iload X.1 X.2.1 zd_R_hasTouched_12 (lv_at hl 0 rfl) ?_
    refine lv_aload_n X.1 X.2.1 zd_R_hasTouched_14 rfl (lv_at hl 3 rfl) ?_
    refine g_mR_rowSize X hP zd_R_hasTouched_15 ?_
    refine lv_iconst (v := nI 3) X.1 X.2.1 zd_R_hasTouched_18 (by decide) ?_
    refine lv_iload_n X.1 X.2.1 zd_R_hasTouched_19 rfl (lv_at hl 4 rfl) ?_
    refine lv_imul X.1 X.2.1 zd_R_hasTouched_20 ?_
    refine z_top (pk_mul _ _) ?_
    refine lv_iload_n X.1 X.2.1 zd_R_hasTouched_21 rfl (lv_at hl 2 rfl) ?_
    refine lv_iadd X.1 X.2.1 zd_R_hasTouched_22 ?_
    refine z_top (nI_add _ _) ?_
    refine l_mR_rowSize X hP (by omega) zd_R_hasTouched_23 ?_
    refine lv_icmp_ge (tgt := 72) X.1 X.2.1 zd_R_hasTouched_24 (by decide) (fun _ => ?_) (fun h9 => absurd (by rw [nI_leI (by omega) (by omega)]; omega) h9)
    exact kont H locs ls hP hS (by have h9 := hl; rw [show i = mR_rowSize σ (3 * t + z) by omega] at h9; exact lv_sub h9 [1, 2, 3, 4] rfl)
  | succ j ih =>
    intro i hi H locs ls hP hS hl
    have hle := mHi_le (σ := σ) (t := t) (z := z) hh i
    have hr4 := hB.2.2.2.2.1 (3 * t + z)
    have hrw := hB.2.2.2.1 (12 * t + 4 * z + i)
    have hst := hB.2.2.1 (mR_row σ (12 * t + 4 * z + i))
    have htc := hT1 (mR_standsFor σ (mR_row σ (12 * t + 4 * z + i)))
    refine lv_iload X.1 X.2.1 zd_R_hasTouched_12 (lv_at hl 0 rfl) ?_
    refine lv_aload_n X.1 X.2.1 zd_R_hasTouched_14 rfl (lv_at hl 3 rfl) ?_
    refine g_mR_rowSize X hP zd_R_hasTouched_15 ?_
    refine lv_iconst (v := nI 3) X.1 X.2.1 zd_R_hasTouched_18 (by decide) ?_
    refine lv_iload_n X.1 X.2.1 zd_R_hasTouched_19 rfl (lv_at hl 4 rfl) ?_
    refine lv_imul X.1 X.2.1 zd_R_hasTouched_20 ?_
    refine z_top (pk_mul _ _) ?_
    refine lv_iload_n X.1 X.2.1 zd_R_hasTouched_21 rfl (lv_at hl 2 rfl) ?_
    refine lv_iadd X.1 X.2.1 zd_R_hasTouched_22 ?_
    refine z_top (nI_add _ _) ?_
    refine l_mR_rowSize X hP (by omega) zd_R_hasTouched_23 ?_
    refine lv_icmp_ge (tgt := 72) X.1 X.2.1 zd_R_hasTouched_24 (by decide) (fun h9 => absurd h9 (by rw [nI_leI (by omega) (by omega)]; omega)) (fun _ => ?_)
    refine lv_iload_n X.1 X.2.1 zd_R_hasTouched_27 rfl (lv_at hl 1 rfl) ?_
    refine lv_if_ne (tgt := 60) X.1 X.2.1 zd_R_hasTouched_28 (by decide) (fun c1 => ?_) (fun c1 => ?_)
    · rw [z_eq0 (by omega)] at c1
      refine lv_iconst (v := nI 1) X.1 X.2.1 zd_R_hasTouched_60 (by decide) ?_
      refine lv_goto (tgt := 65) X.1 X.2.1 zd_R_hasTouched_61 (by decide) ?_
      refine lv_istore_n (lv' := [(2, .int (nI 1)), (4, .int (nI i)), (3, .int (nI z)), (0, .ref (G 0)), (1, .int (nI t))]) X.1 X.2.1 zd_R_hasTouched_65 rfl hl (by decide) rfl (fun ls hl => ?_)
      refine lv_iinc (v := nI (i + 1)) (lv' := [(4, .int (nI (i + 1))), (2, .int (nI 1)), (3, .int (nI z)), (0, .ref (G 0)), (1, .int (nI t))]) X.1 X.2.1 zd_R_hasTouched_66 hl (k := 1) rfl (nI_1 _) (by decide) rfl (fun ls hl => ?_)
      refine lv_goto (tgt := 12) X.1 X.2.1 zd_R_hasTouched_69 (by decide) ?_
      exact ih (i + 1) (by omega) H locs ls hP hS (by rw [show mHi σ t z h (i + 1) = 1 from (by rw [mHi]; simp [*])]; exact lv_sub hl [0, 1, 2, 3, 4] rfl)
    · rw [z_eq0 (by omega)] at c1
      refine lv_aload_n X.1 X.2.1 zd_R_hasTouched_31 rfl (lv_at hl 3 rfl) ?_
      refine g_mR_touched X hP zd_R_hasTouched_32 ?_
      refine lv_aload_n X.1 X.2.1 zd_R_hasTouched_35 rfl (lv_at hl 3 rfl) ?_
      refine g_mR_standsFor X hP zd_R_hasTouched_36 ?_
      refine lv_aload_n X.1 X.2.1 zd_R_hasTouched_39 rfl (lv_at hl 3 rfl) ?_
      refine g_mR_row X hP zd_R_hasTouched_40 ?_
      refine lv_bipush (v := nI 12) X.1 X.2.1 zd_R_hasTouched_43 (by decide) ?_
      refine lv_iload_n X.1 X.2.1 zd_R_hasTouched_45 rfl (lv_at hl 4 rfl) ?_
      refine lv_imul X.1 X.2.1 zd_R_hasTouched_46 ?_
      refine z_top (pk_mul _ _) ?_
      refine lv_iconst (v := nI 4) X.1 X.2.1 zd_R_hasTouched_47 (by decide) ?_
      refine lv_iload_n X.1 X.2.1 zd_R_hasTouched_48 rfl (lv_at hl 2 rfl) ?_
      refine lv_imul X.1 X.2.1 zd_R_hasTouched_49 ?_
      refine z_top (pk_mul _ _) ?_
      refine lv_iadd X.1 X.2.1 zd_R_hasTouched_50 ?_
      refine z_top (nI_add _ _) ?_
      refine lv_iload X.1 X.2.1 zd_R_hasTouched_51 (lv_at hl 0 rfl) ?_
      refine lv_iadd X.1 X.2.1 zd_R_hasTouched_53 ?_
      refine z_top (nI_add _ _) ?_
      refine l_mR_row X hP (by omega) zd_R_hasTouched_54 ?_
      refine l_mR_standsFor X hP (by omega) zd_R_hasTouched_55 ?_
      refine l_mR_touched X hP (by omega) zd_R_hasTouched_56 ?_
      refine lv_if_eq (tgt := 64) X.1 X.2.1 zd_R_hasTouched_57 (by decide) (fun c2 => ?_) (fun c2 => ?_)
      · rw [z_eq0 (by omega)] at c2
        refine lv_iconst (v := nI 0) X.1 X.2.1 zd_R_hasTouched_64 (by decide) ?_
        refine lv_istore_n (lv' := [(2, .int (nI 0)), (4, .int (nI i)), (3, .int (nI z)), (0, .ref (G 0)), (1, .int (nI t))]) X.1 X.2.1 zd_R_hasTouched_65 rfl hl (by decide) rfl (fun ls hl => ?_)
        refine lv_iinc (v := nI (i + 1)) (lv' := [(4, .int (nI (i + 1))), (2, .int (nI 0)), (3, .int (nI z)), (0, .ref (G 0)), (1, .int (nI t))]) X.1 X.2.1 zd_R_hasTouched_66 hl (k := 1) rfl (nI_1 _) (by decide) rfl (fun ls hl => ?_)
        refine lv_goto (tgt := 12) X.1 X.2.1 zd_R_hasTouched_69 (by decide) ?_
        exact ih (i + 1) (by omega) H locs ls hP hS (by rw [show mHi σ t z h (i + 1) = 0 from (by rw [mHi]; simp [*])]; exact lv_sub hl [0, 1, 2, 3, 4] rfl)
      · rw [z_eq0 (by omega)] at c2
        refine lv_iconst (v := nI 1) X.1 X.2.1 zd_R_hasTouched_60 (by decide) ?_
        refine lv_goto (tgt := 65) X.1 X.2.1 zd_R_hasTouched_61 (by decide) ?_
        refine lv_istore_n (lv' := [(2, .int (nI 1)), (4, .int (nI i)), (3, .int (nI z)), (0, .ref (G 0)), (1, .int (nI t))]) X.1 X.2.1 zd_R_hasTouched_65 rfl hl (by decide) rfl (fun ls hl => ?_)
        refine lv_iinc (v := nI (i + 1)) (lv' := [(4, .int (nI (i + 1))), (2, .int (nI 1)), (3, .int (nI z)), (0, .ref (G 0)), (1, .int (nI t))]) X.1 X.2.1 zd_R_hasTouched_66 hl (k := 1) rfl (nI_1 _) (by decide) rfl (fun ls hl => ?_)
        refine lv_goto (tgt := 12) X.1 X.2.1 zd_R_hasTouched_69 (by decide) ?_
        exact ih (i + 1) (by omega) H locs ls hP hS (by rw [show mHi σ t z h (i + 1) = 1 from (by rw [mHi]; simp [*])]; exact lv_sub hl [0, 1, 2, 3, 4] rfl)

set_option maxHeartbeats 4000000 in
set_option maxRecDepth 100000 in
/-- hasTouched's outer loop -/
theorem q_R_hasTouched {p : Program} {e : Env} {s : State} {m : MethodId} {args : Array Value} {below : List Frame} {meth : Method} {c : Code} (l : Launch) (K : zK) (G : Nat → Nat) (A : Nat → Prop) (hD : ∀ σ, va_D A (mW K G σ)) (X : zFx K zR_R zb_R_hasTouched p s m args c) (hr : meth.sig.returnType = (some .boolean)) (hml : c.maxLocals = 5) (hlocks : meth.locks = false) (σ : mS) (t : Nat) (ht : t < 20) (hB : mB σ) (hT1 : ∀ q, mR_touched σ q ≤ 1) : ∀ (j z : Nat), z + j = 3 → ∀ (H : Heap) (locs : List Loc) (ls : Array Slot), va_P K.1 zcl (mW K G σ) H → va_S A s.heap H locs → lv_has ls 5 [(3, .int (nI z)), (2, .int (nI (mHo σ t z))), (0, .ref (G 0)), (1, .int (nI t))] → W p l e (zrm 0) s m args below meth c H locs 0 0 (MQ below (zPost K A (mW K G σ) (some (.int (nI (mHo σ t 3))))) args s 0 0 A) (F0 m 4 ls []) := by
  intro j
  induction j with
  | zero =>
    intro z hi H locs ls hP hS hl
    have hle := mHo_le σ t z
    refine lv_iload_n X.1 X.2.1 zd_R_hasTouched_4 rfl (lv_at hl 0 rfl) ?_
    refine lv_iconst (v := nI 3) X.1 X.2.1 zd_R_hasTouched_5 (by decide) ?_
    refine lv_icmp_ge (tgt := 78) X.1 X.2.1 zd_R_hasTouched_6 (by decide) (fun _ => ?_) (fun h9 => absurd (by rw [nI_leI (by omega) (by omega)]; omega) h9)
    refine lv_iload_n X.1 X.2.1 zd_R_hasTouched_78 rfl (lv_at hl 1 rfl) ?_
    exact z_zret X.1 X.2.1 hr hlocks (by rcases (show mHo σ t z = 0 ∨ mHo σ t z = 1 by omega) with h9 | h9 <;> rw [h9] <;> decide) (by rw [show z = 3 by omega]) rfl hP hS zd_R_hasTouched_79
  | succ j ih =>
    intro z hi H locs ls hP hS hl
    have hle := mHo_le σ t z
    refine lv_iload_n X.1 X.2.1 zd_R_hasTouched_4 rfl (lv_at hl 0 rfl) ?_
    refine lv_iconst (v := nI 3) X.1 X.2.1 zd_R_hasTouched_5 (by decide) ?_
    refine lv_icmp_ge (tgt := 78) X.1 X.2.1 zd_R_hasTouched_6 (by decide) (fun h9 => absurd h9 (by rw [nI_leI (by omega) (by omega)]; omega)) (fun _ => ?_)
    refine lv_iconst (v := nI 0) X.1 X.2.1 zd_R_hasTouched_9 (by decide) ?_
    refine lv_istore (lv' := [(4, .int (nI 0)), (3, .int (nI z)), (2, .int (nI (mHo σ t z))), (0, .ref (G 0)), (1, .int (nI t))]) X.1 X.2.1 zd_R_hasTouched_10 hl (by decide) rfl (fun ls hl => ?_)
    refine q_R_hasTouched_i l K G A hD X hr hml hlocks σ t z _ ht (by omega) (mHo_le σ t z) hB hT1 (fun H locs ls hP hS hl => ?_) (mR_rowSize σ (3 * t + z)) 0 (Nat.zero_add _) H locs ls hP hS (lv_sub hl [0, 2, 1, 3, 4] rfl)
    refine lv_iinc (v := nI (z + 1)) (lv' := [(3, .int (nI (z + 1))), (2, .int (nI (mHi σ t z (mHo σ t z) (mR_rowSize σ (3 * t + z))))), (0, .ref (G 0)), (1, .int (nI t))]) X.1 X.2.1 zd_R_hasTouched_72 hl (k := 1) rfl (nI_1 _) (by decide) rfl (fun ls hl => ?_)
    refine lv_goto (tgt := 4) X.1 X.2.1 zd_R_hasTouched_75 (by decide) ?_
    exact ih (z + 1) (by omega) H locs ls hP hS (lv_sub hl [0, 1, 2, 3] rfl)

set_option maxHeartbeats 4000000 in
set_option maxRecDepth 100000 in
/-- hasTouched(t) -/
theorem r_hasTouched (l : Launch) (K : zK) (G : Nat → Nat) (A : Nat → Prop) (hD : ∀ σ, va_D A (mW K G σ)) (σ : mS) (t : Nat) (ht : t < 20) (hB : mB σ) (hT1 : ∀ q, mR_touched σ q ≤ 1) : zMet l K A zy_R_hasTouched zws_R_hasTouched 0 [.ref (G 0), .int (nI t)] (mW K G σ) (mW K G σ) (some (.int (nI (mHo σ t 3)))) := by
  refine z_entry (by decide) (Nat.le_of_ble_eq_true rfl) ?_
  intro p e s m below meth c ls X hr hml hlocks hP hl
  have hS : va_S A s.heap s.heap [] := va_S.rf
  have hl : lv_has ls 5 [(0, .ref (G 0)), (1, .int (nI t))] := hl
  refine lv_iconst (v := nI 0) X.1 X.2.1 zd_R_hasTouched_0 (by decide) ?_
  refine lv_istore_n (lv' := [(2, .int (nI 0)), (0, .ref (G 0)), (1, .int (nI t))]) X.1 X.2.1 zd_R_hasTouched_1 rfl hl (by decide) rfl (fun ls hl => ?_)
  refine lv_iconst (v := nI 0) X.1 X.2.1 zd_R_hasTouched_2 (by decide) ?_
  refine lv_istore_n (lv' := [(3, .int (nI 0)), (2, .int (nI 0)), (0, .ref (G 0)), (1, .int (nI t))]) X.1 X.2.1 zd_R_hasTouched_3 rfl hl (by decide) rfl (fun ls hl => ?_)
  exact q_R_hasTouched l K G A hD X hr hml hlocks σ t ht hB hT1 (3) 0 (Nat.zero_add _) s.heap [] ls hP hS (lv_sub hl [0, 1, 2, 3] rfl)

set_option maxHeartbeats 4000000 in
set_option maxRecDepth 100000 in
/-- forgetTarget's first loop -/
theorem q_R_forgetTarget_k {p : Program} {e : Env} {s : State} {m : MethodId} {args : Array Value} {below : List Frame} {meth : Method} {c : Code} {Q : State → Prop} (l : Launch) (K : zK) (G : Nat → Nat) (A : Nat → Prop) (hD : ∀ σ, va_D A (mW K G σ)) (X : zFx K zR_R zb_R_forgetTarget p s m args c) (hr : meth.sig.returnType = none) (hml : c.maxLocals = 3) (hlocks : meth.locks = false) (σ : mS) (t : Nat) (ht : t < 20) (kont : ∀ (H : Heap) (locs : List Loc) (ls : Array Slot), va_P K.1 zcl (mW K G (mFK σ t 128)) H → va_S A s.heap H locs → lv_has ls 3 [(0, .ref (G 0)), (1, .int (nI t))] → W p l e (zrm 0) s m args below meth c H locs 0 0 Q (F0 m 28 ls [])) : ∀ (j i : Nat), i + j = 128 → ∀ (τ : mS), τ = mFK σ t i → ∀ (H : Heap) (locs : List Loc) (ls : Array Slot), va_P K.1 zcl (mW K G τ) H → va_S A s.heap H locs → lv_has ls 3 [(2, .int (nI i)), (0, .ref (G 0)), (1, .int (nI t))] → W p l e (zrm 0) s m args below meth c H locs 0 0 Q (F0 m 2 ls []) := by
  intro j
  induction j with
  | zero =>
    intro i hi τ hτ H locs ls hP hS hl
    refine lv_iload_n X.1 X.2.1 zd_R_forgetTarget_2 rfl (lv_at hl 0 rfl) ?_
    refine lv_sipush (v := nI 128) X.1 X.2.1 zd_R_forgetTarget_3 (by decide) ?_
    refine lv_icmp_ge (tgt := 28) X.1 X.2.1 zd_R_forgetTarget_6 (by decide) (fun _ => ?_) (fun h9 => absurd (by rw [nI_leI (by omega) (by omega)]; omega) h9)
    exact kont H locs ls (by have h9 := hP; rw [hτ, show i = 128 by omega] at h9; exact h9) hS (by have h9 := hl; rw [show i = 128 by omega] at h9; exact lv_sub h9 [1, 2] rfl)
  | succ j ih =>
    intro i hi τ hτ H locs ls hP hS hl
    refine lv_iload_n X.1 X.2.1 zd_R_forgetTarget_2 rfl (lv_at hl 0 rfl) ?_
    refine lv_sipush (v := nI 128) X.1 X.2.1 zd_R_forgetTarget_3 (by decide) ?_
    refine lv_icmp_ge (tgt := 28) X.1 X.2.1 zd_R_forgetTarget_6 (by decide) (fun h9 => absurd h9 (by rw [nI_leI (by omega) (by omega)]; omega)) (fun _ => ?_)
    refine lv_aload_n X.1 X.2.1 zd_R_forgetTarget_9 rfl (lv_at hl 1 rfl) ?_
    refine g_mR_known X hP zd_R_forgetTarget_10 ?_
    refine lv_sipush (v := nI 128) X.1 X.2.1 zd_R_forgetTarget_13 (by decide) ?_
    refine lv_iload_n X.1 X.2.1 zd_R_forgetTarget_16 rfl (lv_at hl 2 rfl) ?_
    refine lv_imul X.1 X.2.1 zd_R_forgetTarget_17 ?_
    refine z_top (pk_mul _ _) ?_
    refine lv_iload_n X.1 X.2.1 zd_R_forgetTarget_18 rfl (lv_at hl 0 rfl) ?_
    refine lv_iadd X.1 X.2.1 zd_R_forgetTarget_19 ?_
    refine z_top (nI_add _ _) ?_
    refine lv_iconst (v := nI 0) X.1 X.2.1 zd_R_forgetTarget_20 (by decide) ?_
    refine s_mR_known X hD hP hS (by omega) zd_R_forgetTarget_21 (fun H locs hP hS => ?_)
    have hP : va_P K.1 zcl (mW K G (p_mR_known τ (upN (mR_known τ) ((128 * t) + i) 0))) H := hP
    refine lv_iinc (v := nI (i + 1)) (lv' := [(2, .int (nI (i + 1))), (0, .ref (G 0)), (1, .int (nI t))]) X.1 X.2.1 zd_R_forgetTarget_22 hl (k := 0) rfl (nI_1 _) (by decide) rfl (fun ls hl => ?_)
    refine lv_goto (tgt := 2) X.1 X.2.1 zd_R_forgetTarget_25 (by decide) ?_
    exact ih (i + 1) (by omega) _ (by rw [hτ]; rfl) H locs ls hP hS (lv_sub hl [0, 1, 2] rfl)

set_option maxHeartbeats 4000000 in
set_option maxRecDepth 100000 in
/-- forgetTarget's second loop -/
theorem q_R_forgetTarget_m {p : Program} {e : Env} {s : State} {m : MethodId} {args : Array Value} {below : List Frame} {meth : Method} {c : Code} (l : Launch) (K : zK) (G : Nat → Nat) (A : Nat → Prop) (hD : ∀ σ, va_D A (mW K G σ)) (X : zFx K zR_R zb_R_forgetTarget p s m args c) (hr : meth.sig.returnType = none) (hml : c.maxLocals = 3) (hlocks : meth.locks = false) (σ : mS) (t : Nat) (ht : t < 20) : ∀ (j i : Nat), i + j = 10 → ∀ (τ : mS), τ = mFM σ t i → ∀ (H : Heap) (locs : List Loc) (ls : Array Slot), va_P K.1 zcl (mW K G τ) H → va_S A s.heap H locs → lv_has ls 3 [(2, .int (nI i)), (0, .ref (G 0)), (1, .int (nI t))] → W p l e (zrm 0) s m args below meth c H locs 0 0 (MQ below (zPost K A (mW K G (mFM σ t 10)) none) args s 0 0 A) (F0 m 30 ls []) := by
  intro j
  induction j with
  | zero =>
    intro i hi τ hτ H locs ls hP hS hl
    refine lv_iload_n X.1 X.2.1 zd_R_forgetTarget_30 rfl (lv_at hl 0 rfl) ?_
    refine lv_bipush (v := nI 10) X.1 X.2.1 zd_R_forgetTarget_31 (by decide) ?_
    refine lv_icmp_ge (tgt := 54) X.1 X.2.1 zd_R_forgetTarget_33 (by decide) (fun _ => ?_) (fun h9 => absurd (by rw [nI_leI (by omega) (by omega)]; omega) h9)
    exact z_vret X.1 X.2.1 hr hlocks (by rw [hτ, show i = 10 by omega]) hP hS zd_R_forgetTarget_54
  | succ j ih =>
    intro i hi τ hτ H locs ls hP hS hl
    refine lv_iload_n X.1 X.2.1 zd_R_forgetTarget_30 rfl (lv_at hl 0 rfl) ?_
    refine lv_bipush (v := nI 10) X.1 X.2.1 zd_R_forgetTarget_31 (by decide) ?_
    refine lv_icmp_ge (tgt := 54) X.1 X.2.1 zd_R_forgetTarget_33 (by decide) (fun h9 => absurd h9 (by rw [nI_leI (by omega) (by omega)]; omega)) (fun _ => ?_)
    refine lv_aload_n X.1 X.2.1 zd_R_forgetTarget_36 rfl (lv_at hl 1 rfl) ?_
    refine g_mR_madeBy X hP zd_R_forgetTarget_37 ?_
    refine lv_bipush (v := nI 10) X.1 X.2.1 zd_R_forgetTarget_40 (by decide) ?_
    refine lv_iload_n X.1 X.2.1 zd_R_forgetTarget_42 rfl (lv_at hl 2 rfl) ?_
    refine lv_imul X.1 X.2.1 zd_R_forgetTarget_43 ?_
    refine z_top (pk_mul _ _) ?_
    refine lv_iload_n X.1 X.2.1 zd_R_forgetTarget_44 rfl (lv_at hl 0 rfl) ?_
    refine lv_iadd X.1 X.2.1 zd_R_forgetTarget_45 ?_
    refine z_top (nI_add _ _) ?_
    refine lv_iconst (v := -1) X.1 X.2.1 zd_R_forgetTarget_46 (by decide) ?_
    refine s_mR_madeBy X hD hP hS (by omega) zd_R_forgetTarget_47 (fun H locs hP hS => ?_)
    have hP : va_P K.1 zcl (mW K G (p_mR_madeBy τ (upd (mR_madeBy τ) ((10 * t) + i) (-1)))) H := hP
    refine lv_iinc (v := nI (i + 1)) (lv' := [(2, .int (nI (i + 1))), (0, .ref (G 0)), (1, .int (nI t))]) X.1 X.2.1 zd_R_forgetTarget_48 hl (k := 0) rfl (nI_1 _) (by decide) rfl (fun ls hl => ?_)
    refine lv_goto (tgt := 30) X.1 X.2.1 zd_R_forgetTarget_51 (by decide) ?_
    exact ih (i + 1) (by omega) _ (by rw [hτ]; rfl) H locs ls hP hS (lv_sub hl [0, 1, 2] rfl)

set_option maxHeartbeats 4000000 in
set_option maxRecDepth 100000 in
/-- forgetTarget(t) -/
theorem r_forgetTarget (l : Launch) (K : zK) (G : Nat → Nat) (A : Nat → Prop) (hD : ∀ σ, va_D A (mW K G σ)) (σ : mS) (t : Nat) (ht : t < 20) : zMet l K A zy_R_forgetTarget zws_R_forgetTarget 0 [.ref (G 0), .int (nI t)] (mW K G σ) (mW K G (mForgetT σ t)) none := by
  refine z_entry (by decide) (Nat.le_of_ble_eq_true rfl) ?_
  intro p e s m below meth c ls X hr hml hlocks hP hl
  have hS : va_S A s.heap s.heap [] := va_S.rf
  have hl : lv_has ls 3 [(0, .ref (G 0)), (1, .int (nI t))] := hl
  refine lv_iconst (v := nI 0) X.1 X.2.1 zd_R_forgetTarget_0 (by decide) ?_
  refine lv_istore_n (lv' := [(2, .int (nI 0)), (0, .ref (G 0)), (1, .int (nI t))]) X.1 X.2.1 zd_R_forgetTarget_1 rfl hl (by decide) rfl (fun ls hl => ?_)
  refine q_R_forgetTarget_k l K G A hD X hr hml hlocks σ t ht (fun H locs ls hP hS hl => ?_) 128 0 rfl _ rfl s.heap [] ls hP hS (lv_sub hl [0, 1, 2] rfl)
  refine lv_iconst (v := nI 0) X.1 X.2.1 zd_R_forgetTarget_28 (by decide) ?_
  refine lv_istore_n (lv' := [(2, .int (nI 0)), (0, .ref (G 0)), (1, .int (nI t))]) X.1 X.2.1 zd_R_forgetTarget_29 rfl hl (by decide) rfl (fun ls hl => ?_)
  exact q_R_forgetTarget_m l K G A hD X hr hml hlocks (mFK σ t 128) t ht 10 0 rfl _ rfl H locs ls hP hS (lv_sub hl [0, 1, 2] rfl)

/-- what touching and forgetting leave as it was -/
def mSame (τ σ : mS) : Prop := mR_targets τ = mR_targets σ ∧ mR_aspects τ = mR_aspects σ ∧ mR_standsFor τ = mR_standsFor σ ∧ mR_row τ = mR_row σ ∧ mR_rowSize τ = mR_rowSize σ ∧ mR_needs τ = mR_needs σ ∧ mR_needMany τ = mR_needMany σ ∧ mR_kind τ = mR_kind σ ∧ mR_nameOf τ = mR_nameOf σ ∧ mR_value τ = mR_value σ ∧ mR_providers τ = mR_providers σ ∧ mR_along τ = mR_along σ ∧ mR_wants τ = mR_wants σ ∧ mR_gives τ = mR_gives σ
theorem mSame.rf (σ : mS) : mSame σ σ := ⟨rfl, rfl, rfl, rfl, rfl, rfl, rfl, rfl, rfl, rfl, rfl, rfl, rfl, rfl⟩
theorem mSame.tr {a b c : mS} (h1 : mSame a b) (h2 : mSame b c) : mSame a c := by
  obtain ⟨a1, a2, a3, a4, a5, a6, a7, a8, a9, a10, a11, a12, a13, a14⟩ := h1
  obtain ⟨b1, b2, b3, b4, b5, b6, b7, b8, b9, b10, b11, b12, b13, b14⟩ := h2
  exact ⟨a1.trans b1, a2.trans b2, a3.trans b3, a4.trans b4, a5.trans b5, a6.trans b6, a7.trans b7, a8.trans b8, a9.trans b9, a10.trans b10, a11.trans b11, a12.trans b12, a13.trans b13, a14.trans b14⟩
theorem mSame_touched (σ : mS) (f : Nat → Nat) : mSame (p_mR_touched σ f) σ := ⟨rfl, rfl, rfl, rfl, rfl, rfl, rfl, rfl, rfl, rfl, rfl, rfl, rfl, rfl⟩
theorem mSame_known (σ : mS) (f : Nat → Nat) : mSame (p_mR_known σ f) σ := ⟨rfl, rfl, rfl, rfl, rfl, rfl, rfl, rfl, rfl, rfl, rfl, rfl, rfl, rfl⟩
theorem mSame_madeBy (σ : mS) (f : Nat → Int32) : mSame (p_mR_madeBy σ f) σ := ⟨rfl, rfl, rfl, rfl, rfl, rfl, rfl, rfl, rfl, rfl, rfl, rfl, rfl, rfl⟩
theorem mB_same {τ σ : mS} (h : mSame τ σ) (hB : mB σ) : mB τ := by
  obtain ⟨a1, a2, a3, a4, a5, a6, a7, a8, a9, -⟩ := h
  unfold mB
  rw [a1, a2, a3, a4, a5, a6, a7, a8, a9]
  exact hB
theorem mFK_same (σ : mS) (t i : Nat) : mSame (mFK σ t i) σ := by
  induction i with
  | zero => exact mSame.rf σ
  | succ i ih => rw [mFK]; exact (mSame_known _ _).tr ih
theorem mFM_same (σ : mS) (t i : Nat) : mSame (mFM σ t i) σ := by
  induction i with
  | zero => exact mSame.rf σ
  | succ i ih => rw [mFM]; exact (mSame_madeBy _ _).tr ih
theorem mForgetT_same (σ : mS) (t : Nat) : mSame (mForgetT σ t) σ := (mFM_same _ _ _).tr (mFK_same _ _ _)
theorem mFF_same (σ : mS) (t u : Nat) : mSame (mFF σ t u) σ := by
  induction u with
  | zero => exact mSame.rf σ
  | succ u ih =>
    unfold mFF
    split
    · exact (mSame_touched _ _).tr ih
    · exact (mForgetT_same _ _).tr ((mSame_touched _ _).tr ih)
theorem mFK_touched (σ : mS) (t i : Nat) : mR_touched (mFK σ t i) = mR_touched σ := by
  induction i with
  | zero => rfl
  | succ i ih => rw [mFK]; exact ih
theorem mFM_touched (σ : mS) (t i : Nat) : mR_touched (mFM σ t i) = mR_touched σ := by
  induction i with
  | zero => rfl
  | succ i ih => rw [mFM]; exact ih
theorem mForgetT_touched (σ : mS) (t : Nat) : mR_touched (mForgetT σ t) = mR_touched σ := (mFM_touched _ _ _).trans (mFK_touched _ _ _)
theorem upN_le {f : Nat → Nat} {k x M : Nat} (h : ∀ q, f q ≤ M) (hx : x ≤ M) : ∀ q, upN f k x q ≤ M := by
  intro q
  unfold upN
  split
  · exact hx
  · exact h q
theorem mFF_touched (σ : mS) (t u : Nat) (h : ∀ q, mR_touched σ q ≤ 1) : ∀ q, mR_touched (mFF σ t u) q ≤ 1 := by
  induction u with
  | zero => exact h
  | succ u ih =>
    unfold mFF
    split
    · exact upN_le ih (by decide)
    · rw [mForgetT_touched]
      exact upN_le ih (by decide)

set_option maxHeartbeats 4000000 in
set_option maxRecDepth 100000 in
/-- forgetFrom's loop -/
theorem q_R_forgetFrom {p : Program} {e : Env} {s : State} {m : MethodId} {args : Array Value} {below : List Frame} {meth : Method} {c : Code} (l : Launch) (K : zK) (G : Nat → Nat) (A : Nat → Prop) (hD : ∀ σ, va_D A (mW K G σ)) (X : zFx K zR_R zb_R_forgetFrom p s m args c) (hr : meth.sig.returnType = none) (hml : c.maxLocals = 3) (hlocks : meth.locks = false) (σ : mS) (t : Nat) (ht : t < 20) (hB : mB σ) (hT0 : ∀ q, mR_touched σ q ≤ 1) : ∀ (j u : Nat), u + j = mR_targets σ → ∀ (τ : mS), τ = mFF σ t u → ∀ (H : Heap) (locs : List Loc) (ls : Array Slot), va_P K.1 zcl (mW K G τ) H → va_S A s.heap H locs → lv_has ls 3 [(2, .int (nI u)), (0, .ref (G 0)), (1, .int (nI t))] → W p l e (zrm 1) s m args below meth c H locs 0 0 (MQ below (zPost K A (mW K G (mFF σ t (mR_targets σ))) none) args s 0 0 A) (F0 m 2 ls []) := by
  intro j
  induction j with
  | zero =>
    intro u hi τ hτ H locs ls hP hS hl
    have hTA : mSame τ σ := by rw [hτ]; exact mFF_same σ t u
    have hoT := hTA.1
    have hBT := hB.1
    have hBt : mB τ := mB_same hTA hB
    have hT1 : ∀ q, mR_touched τ q ≤ 1 := by rw [hτ]; exact mFF_touched σ t u hT0
    have hst := hBt.2.2.1 u
    have hho := mHo_le τ u 3
    refine lv_iload_n X.1 X.2.1 zd_R_forgetFrom_2 rfl (lv_at hl 0 rfl) ?_
    refine lv_aload_n X.1 X.2.1 zd_R_forgetFrom_3 rfl (lv_at hl 1 rfl) ?_
    refine g_mR_targets X hP zd_R_forgetFrom_4 ?_
    refine z_top (congrArg nI hoT) ?_
    refine lv_icmp_ge (tgt := 64) X.1 X.2.1 zd_R_forgetFrom_7 (by decide) (fun _ => ?_) (fun h9 => absurd (by rw [nI_leI (by omega) (by omega)]; omega) h9)
    exact z_vret X.1 X.2.1 hr hlocks (by rw [hτ, show u = mR_targets σ by omega]) hP hS zd_R_forgetFrom_64
  | succ j ih =>
    intro u hi τ hτ H locs ls hP hS hl
    have hTA : mSame τ σ := by rw [hτ]; exact mFF_same σ t u
    have hoT := hTA.1
    have hBT := hB.1
    have hBt : mB τ := mB_same hTA hB
    have hT1 : ∀ q, mR_touched τ q ≤ 1 := by rw [hτ]; exact mFF_touched σ t u hT0
    have hst := hBt.2.2.1 u
    have hho := mHo_le τ u 3
    refine lv_iload_n X.1 X.2.1 zd_R_forgetFrom_2 rfl (lv_at hl 0 rfl) ?_
    refine lv_aload_n X.1 X.2.1 zd_R_forgetFrom_3 rfl (lv_at hl 1 rfl) ?_
    refine g_mR_targets X hP zd_R_forgetFrom_4 ?_
    refine z_top (congrArg nI hoT) ?_
    refine lv_icmp_ge (tgt := 64) X.1 X.2.1 zd_R_forgetFrom_7 (by decide) (fun h9 => absurd h9 (by rw [nI_leI (by omega) (by omega)]; omega)) (fun _ => ?_)
    refine lv_aload_n X.1 X.2.1 zd_R_forgetFrom_10 rfl (lv_at hl 1 rfl) ?_
    refine g_mR_touched X hP zd_R_forgetFrom_11 ?_
    refine lv_iload_n X.1 X.2.1 zd_R_forgetFrom_14 rfl (lv_at hl 0 rfl) ?_
    refine lv_iload_n X.1 X.2.1 zd_R_forgetFrom_15 rfl (lv_at hl 0 rfl) ?_
    refine lv_iload_n X.1 X.2.1 zd_R_forgetFrom_16 rfl (lv_at hl 2 rfl) ?_
    refine lv_icmp_eq (tgt := 38) X.1 X.2.1 zd_R_forgetFrom_17 (by decide) (fun c1 => ?_) (fun c1 => ?_)
    · rw [nI_eq (by omega) (by omega)] at c1
      refine lv_iconst (v := nI 1) X.1 X.2.1 zd_R_forgetFrom_38 (by decide) ?_
      refine lv_goto (tgt := 43) X.1 X.2.1 zd_R_forgetFrom_39 (by decide) ?_
      refine s_mR_touched X hD hP hS (by omega) (by omega) zd_R_forgetFrom_43 (fun H locs hP hS => ?_)
      have hP : va_P K.1 zcl (mW K G (p_mR_touched τ (upN (mR_touched τ) u 1))) H := hP
      refine lv_aload_n X.1 X.2.1 zd_R_forgetFrom_44 rfl (lv_at hl 1 rfl) ?_
      refine g_mR_touched X hP zd_R_forgetFrom_45 ?_
      refine lv_iload_n X.1 X.2.1 zd_R_forgetFrom_48 rfl (lv_at hl 0 rfl) ?_
      refine l_mR_touched X hP (by omega) zd_R_forgetFrom_49 ?_
      refine z_top (y := (nI ((upN (mR_touched τ) u 1) u))) rfl ?_
      refine lv_if_eq (tgt := 58) X.1 X.2.1 zd_R_forgetFrom_50 (by decide) (fun h9 => absurd h9 (by show ¬ nI (upN (mR_touched τ) u 1 u) = 0; simp [upN]; decide)) (fun _ => ?_)
      refine lv_aload_n X.1 X.2.1 zd_R_forgetFrom_53 rfl (lv_at hl 1 rfl) ?_
      refine lv_iload_n X.1 X.2.1 zd_R_forgetFrom_54 rfl (lv_at hl 0 rfl) ?_
      refine z_callVv (As := [.int (nI u)]) (rest := []) (q0 := 0) (ci := 4) X hml (r_forgetTarget l K G A hD (p_mR_touched τ (upN (mR_touched τ) u 1)) u (by omega)) (zk_R_89 X.2.2.2.1 (z_rm (by omega) (by decide))) rfl rfl rfl hP hS rfl hl.1 rfl (Nat.le_of_ble_eq_true rfl) zd_R_forgetFrom_55 ⟨Nat.zero_le _, Nat.zero_le _⟩ (fun H locs hP hS => ?_)
      refine lv_iinc (v := nI (u + 1)) (lv' := [(2, .int (nI (u + 1))), (0, .ref (G 0)), (1, .int (nI t))]) X.1 X.2.1 zd_R_forgetFrom_58 hl (k := 0) rfl (nI_1 _) (by decide) rfl (fun ls hl => ?_)
      refine lv_goto (tgt := 2) X.1 X.2.1 zd_R_forgetFrom_61 (by decide) ?_
      exact ih (u + 1) (by omega) _ (by rw [mFF, ← hτ]; simp [mTb, c1]) H locs ls hP hS (lv_sub hl [0, 1, 2] rfl)
    · rw [nI_eq (by omega) (by omega)] at c1
      refine lv_aload_n X.1 X.2.1 zd_R_forgetFrom_20 rfl (lv_at hl 1 rfl) ?_
      refine g_mR_standsFor X hP zd_R_forgetFrom_21 ?_
      refine lv_iload_n X.1 X.2.1 zd_R_forgetFrom_24 rfl (lv_at hl 0 rfl) ?_
      refine l_mR_standsFor X hP (by omega) zd_R_forgetFrom_25 ?_
      refine lv_iload_n X.1 X.2.1 zd_R_forgetFrom_26 rfl (lv_at hl 0 rfl) ?_
      refine lv_icmp_ne (tgt := 42) X.1 X.2.1 zd_R_forgetFrom_27 (by decide) (fun c2 => ?_) (fun c2 => ?_)
      · rw [nI_eq (by omega) (by omega)] at c2
        refine lv_iconst (v := nI 0) X.1 X.2.1 zd_R_forgetFrom_42 (by decide) ?_
        refine s_mR_touched X hD hP hS (by omega) (by omega) zd_R_forgetFrom_43 (fun H locs hP hS => ?_)
        have hP : va_P K.1 zcl (mW K G (p_mR_touched τ (upN (mR_touched τ) u 0))) H := hP
        refine lv_aload_n X.1 X.2.1 zd_R_forgetFrom_44 rfl (lv_at hl 1 rfl) ?_
        refine g_mR_touched X hP zd_R_forgetFrom_45 ?_
        refine lv_iload_n X.1 X.2.1 zd_R_forgetFrom_48 rfl (lv_at hl 0 rfl) ?_
        refine l_mR_touched X hP (by omega) zd_R_forgetFrom_49 ?_
        refine z_top (y := (nI ((upN (mR_touched τ) u 0) u))) rfl ?_
        refine lv_if_eq (tgt := 58) X.1 X.2.1 zd_R_forgetFrom_50 (by decide) (fun _ => ?_) (fun h9 => absurd (by show nI (upN (mR_touched τ) u 0 u) = 0; simp [upN]; decide) h9)
        refine lv_iinc (v := nI (u + 1)) (lv' := [(2, .int (nI (u + 1))), (0, .ref (G 0)), (1, .int (nI t))]) X.1 X.2.1 zd_R_forgetFrom_58 hl (k := 0) rfl (nI_1 _) (by decide) rfl (fun ls hl => ?_)
        refine lv_goto (tgt := 2) X.1 X.2.1 zd_R_forgetFrom_61 (by decide) ?_
        exact ih (u + 1) (by omega) _ (by rw [mFF, ← hτ]; simp [mTb, c1, c2]) H locs ls hP hS (lv_sub hl [0, 1, 2] rfl)
      · rw [nI_eq (by omega) (by omega)] at c2
        refine lv_aload_n X.1 X.2.1 zd_R_forgetFrom_30 rfl (lv_at hl 1 rfl) ?_
        refine lv_iload_n X.1 X.2.1 zd_R_forgetFrom_31 rfl (lv_at hl 0 rfl) ?_
        refine z_callVi (As := [.int (nI u)]) (rest := [.int (nI u), .ref (G 20)]) (q0 := 0) (ci := 4) X hml (r_hasTouched l K G A hD τ u (by omega) hBt hT1) (zk_R_86 X.2.2.2.1 (z_rm (by omega) (by decide))) rfl rfl rfl hP hS rfl hl.1 rfl (Nat.le_of_ble_eq_true rfl) zd_R_forgetFrom_32 ⟨Nat.zero_le _, Nat.zero_le _⟩ (fun H locs hP hS => ?_)
        refine lv_if_eq (tgt := 42) X.1 X.2.1 zd_R_forgetFrom_35 (by decide) (fun c3 => ?_) (fun c3 => ?_)
        · rw [z_eq0 (by omega)] at c3
          refine lv_iconst (v := nI 0) X.1 X.2.1 zd_R_forgetFrom_42 (by decide) ?_
          refine s_mR_touched X hD hP hS (by omega) (by omega) zd_R_forgetFrom_43 (fun H locs hP hS => ?_)
          have hP : va_P K.1 zcl (mW K G (p_mR_touched τ (upN (mR_touched τ) u 0))) H := hP
          refine lv_aload_n X.1 X.2.1 zd_R_forgetFrom_44 rfl (lv_at hl 1 rfl) ?_
          refine g_mR_touched X hP zd_R_forgetFrom_45 ?_
          refine lv_iload_n X.1 X.2.1 zd_R_forgetFrom_48 rfl (lv_at hl 0 rfl) ?_
          refine l_mR_touched X hP (by omega) zd_R_forgetFrom_49 ?_
          refine z_top (y := (nI ((upN (mR_touched τ) u 0) u))) rfl ?_
          refine lv_if_eq (tgt := 58) X.1 X.2.1 zd_R_forgetFrom_50 (by decide) (fun _ => ?_) (fun h9 => absurd (by show nI (upN (mR_touched τ) u 0 u) = 0; simp [upN]; decide) h9)
          refine lv_iinc (v := nI (u + 1)) (lv' := [(2, .int (nI (u + 1))), (0, .ref (G 0)), (1, .int (nI t))]) X.1 X.2.1 zd_R_forgetFrom_58 hl (k := 0) rfl (nI_1 _) (by decide) rfl (fun ls hl => ?_)
          refine lv_goto (tgt := 2) X.1 X.2.1 zd_R_forgetFrom_61 (by decide) ?_
          exact ih (u + 1) (by omega) _ (by rw [mFF, ← hτ]; simp [mTb, c1, c2, c3]) H locs ls hP hS (lv_sub hl [0, 1, 2] rfl)
        · rw [z_eq0 (by omega)] at c3
          refine lv_iconst (v := nI 1) X.1 X.2.1 zd_R_forgetFrom_38 (by decide) ?_
          refine lv_goto (tgt := 43) X.1 X.2.1 zd_R_forgetFrom_39 (by decide) ?_
          refine s_mR_touched X hD hP hS (by omega) (by omega) zd_R_forgetFrom_43 (fun H locs hP hS => ?_)
          have hP : va_P K.1 zcl (mW K G (p_mR_touched τ (upN (mR_touched τ) u 1))) H := hP
          refine lv_aload_n X.1 X.2.1 zd_R_forgetFrom_44 rfl (lv_at hl 1 rfl) ?_
          refine g_mR_touched X hP zd_R_forgetFrom_45 ?_
          refine lv_iload_n X.1 X.2.1 zd_R_forgetFrom_48 rfl (lv_at hl 0 rfl) ?_
          refine l_mR_touched X hP (by omega) zd_R_forgetFrom_49 ?_
          refine z_top (y := (nI ((upN (mR_touched τ) u 1) u))) rfl ?_
          refine lv_if_eq (tgt := 58) X.1 X.2.1 zd_R_forgetFrom_50 (by decide) (fun h9 => absurd h9 (by show ¬ nI (upN (mR_touched τ) u 1 u) = 0; simp [upN]; decide)) (fun _ => ?_)
          refine lv_aload_n X.1 X.2.1 zd_R_forgetFrom_53 rfl (lv_at hl 1 rfl) ?_
          refine lv_iload_n X.1 X.2.1 zd_R_forgetFrom_54 rfl (lv_at hl 0 rfl) ?_
          refine z_callVv (As := [.int (nI u)]) (rest := []) (q0 := 0) (ci := 4) X hml (r_forgetTarget l K G A hD (p_mR_touched τ (upN (mR_touched τ) u 1)) u (by omega)) (zk_R_89 X.2.2.2.1 (z_rm (by omega) (by decide))) rfl rfl rfl hP hS rfl hl.1 rfl (Nat.le_of_ble_eq_true rfl) zd_R_forgetFrom_55 ⟨Nat.zero_le _, Nat.zero_le _⟩ (fun H locs hP hS => ?_)
          refine lv_iinc (v := nI (u + 1)) (lv' := [(2, .int (nI (u + 1))), (0, .ref (G 0)), (1, .int (nI t))]) X.1 X.2.1 zd_R_forgetFrom_58 hl (k := 0) rfl (nI_1 _) (by decide) rfl (fun ls hl => ?_)
          refine lv_goto (tgt := 2) X.1 X.2.1 zd_R_forgetFrom_61 (by decide) ?_
          exact ih (u + 1) (by omega) _ (by rw [mFF, ← hτ]; simp [mTb, c1, c2, c3]) H locs ls hP hS (lv_sub hl [0, 1, 2] rfl)

set_option maxHeartbeats 4000000 in
set_option maxRecDepth 100000 in
/-- forgetFrom(t) -/
theorem r_forgetFrom (l : Launch) (K : zK) (G : Nat → Nat) (A : Nat → Prop) (hD : ∀ σ, va_D A (mW K G σ)) (σ : mS) (t : Nat) (ht : t < 20) (hB : mB σ) (hT0 : ∀ q, mR_touched σ q ≤ 1) : zMet l K A zy_R_forgetFrom zws_R_forgetFrom 1 [.ref (G 0), .int (nI t)] (mW K G σ) (mW K G (mFF σ t (mR_targets σ))) none := by
  refine z_entry (by decide) (Nat.le_of_ble_eq_true rfl) ?_
  intro p e s m below meth c ls X hr hml hlocks hP hl
  have hS : va_S A s.heap s.heap [] := va_S.rf
  have hl : lv_has ls 3 [(0, .ref (G 0)), (1, .int (nI t))] := hl
  refine lv_iconst (v := nI 0) X.1 X.2.1 zd_R_forgetFrom_0 (by decide) ?_
  refine lv_istore_n (lv' := [(2, .int (nI 0)), (0, .ref (G 0)), (1, .int (nI t))]) X.1 X.2.1 zd_R_forgetFrom_1 rfl hl (by decide) rfl (fun ls hl => ?_)
  exact q_R_forgetFrom l K G A hD X hr hml hlocks σ t ht hB hT0 (mR_targets σ) 0 (Nat.zero_add _) _ rfl s.heap [] ls hP hS (lv_sub hl [0, 1, 2] rfl)

