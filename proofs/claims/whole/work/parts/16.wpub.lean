/-! contracts of the class's public methods (by program: wip/gen/wpub.py) -/
theorem z_rng {y : Int32} {N : Nat} (h0 : ¬ y < 0) (h : ¬ nI N ≤ y) (hN : N < 2 ^ 31) : ∃ j : Nat, j < N ∧ y = nI j := by
  rcases pk_ix y hN with q | q | q
  · exact absurd q h0
  · exact absurd q h
  · exact q
theorem cHas_ex {o : Nat} {x : Int32} (ho : o < 2 ^ 31) (h : ¬ cHas o x = 0) : ∃ n, n < o ∧ x = nI n := by
  unfold cHas at h
  split at h
  · exact absurd rfl h
  · split at h
    · exact absurd rfl h
    · rename_i h1 h2
      exact z_rng h1 h2 ho
theorem cHas_y {o n : Nat} (h : n < o) (ho : o < 2 ^ 31) : cHas o (nI n) = 1 := by
  unfold cHas
  rw [if_neg (nI_pos (by omega)), if_neg (nI_ge h ho)]
theorem cHas_n {o : Nat} {x : Int32} (ho : o < 2 ^ 31) (h : ∀ n, n < o → ¬ x = nI n) : cHas o x = 0 := by
  apply Classical.byContradiction
  intro q
  obtain ⟨n, hn, rfl⟩ := cHas_ex ho q
  exact h n hn rfl
theorem cAsked_y {σ : cS} {t a k : Nat} (ht : t < cT_opened σ) (hT : cT_opened σ ≤ 20) (ha : a < cA_opened σ) (hA : cA_opened σ ≤ 8) (hk : k < 16) : cAsked σ (nI t) (nI a) (nI k) = 1 := by
  unfold cAsked
  rw [cHas_y ht (by omega), cHas_y ha (by omega), if_neg (by decide), if_neg (by decide), if_neg (nI_pos (by omega)), if_neg (nI_ge hk (by decide))]
theorem cAsked_n {σ : cS} {x y z : Int32} (hT : cT_opened σ ≤ 20) (hA : cA_opened σ ≤ 8) (h : ¬ ∃ t a k, t < cT_opened σ ∧ x = nI t ∧ a < cA_opened σ ∧ y = nI a ∧ k < 16 ∧ z = nI k) : cAsked σ x y z = 0 := by
  unfold cAsked
  split
  · rfl
  · split
    · rfl
    · split
      · rfl
      · split
        · rfl
        · rename_i h1 h2 h3 h4
          obtain ⟨t, ht, e1⟩ := cHas_ex (by omega) h1
          obtain ⟨a, ha, e2⟩ := cHas_ex (by omega) h2
          obtain ⟨k, hk, e3⟩ := z_rng h3 h4 (by decide)
          exact absurd ⟨t, a, k, ht, e1, ha, e2, hk, e3⟩ h

set_option maxHeartbeats 4000000 in
set_option maxRecDepth 100000 in
/-- target: a new one -/
theorem k_W_target_1 (l : Launch) (K : zK) (G : Nat → Nat) (A : Nat → Prop) (hD : ∀ σ, va_D A (cW K G σ)) (σ : cS) (v : Int64) (g : Int32) (ho : cT_opened σ < 20) (hB : cB σ) : zMet l K A zy_W_target zws_W_target 1 [.ref (G 0), .long v, .int g] (cW K G σ) (cW K G (cOpenT σ v (g &&& nI 255))) (some (.int (nI (cT_opened σ)))) := by
  have hBo := hB.1
  have hBa := hB.2.1
  refine z_entry (by decide) (Nat.le_of_ble_eq_true rfl) ?_
  intro p e s m below meth c ls X hr hml hlocks hP hl
  have hS : va_S A s.heap s.heap [] := va_S.rf
  have hl : lv_has ls 4 [(0, .ref (G 0)), (1, .long v), (3, .int g)] := hl
  refine lv_aload_n X.1 X.2.1 zd_W_target_0 rfl (lv_at hl 0 rfl) ?_
  refine g_cW_targets X hP zd_W_target_1 ?_
  refine lv_lload_n X.1 X.2.1 zd_W_target_4 rfl (lv_at hl 1 rfl) ?_
  refine lv_iload_n X.1 X.2.1 zd_W_target_5 rfl (lv_at hl 2 rfl) ?_
  refine lv_sipush (v := nI 255) X.1 X.2.1 zd_W_target_6 (by decide) ?_
  refine lv_iand X.1 X.2.1 zd_W_target_9 ?_
  refine z_callVi (As := [.long v, .int (g &&& (nI 255))]) (rest := []) (q0 := 1) (ci := 0) X hml (k_T_open_1 l K G A hD σ v (g &&& (nI 255)) ho) (zk_W_40 X.2.2.2.1 (z_rm (by omega) (by decide))) rfl rfl rfl hP hS rfl hl.1 rfl (Nat.le_of_ble_eq_true rfl) zd_W_target_10 ⟨Nat.zero_le _, Nat.zero_le _⟩ (fun H locs hP hS => ?_)
  exact z_iret X.1 X.2.1 hr hlocks rfl rfl hP hS zd_W_target_13

set_option maxHeartbeats 4000000 in
set_option maxRecDepth 100000 in
/-- target: full -/
theorem k_W_target_0 (l : Launch) (K : zK) (G : Nat → Nat) (A : Nat → Prop) (hD : ∀ σ, va_D A (cW K G σ)) (σ : cS) (v : Int64) (g : Int32) (ho : cT_opened σ = 20) (hB : cB σ) : zMet l K A zy_W_target zws_W_target 1 [.ref (G 0), .long v, .int g] (cW K G σ) (cW K G σ) (some (.int (-1))) := by
  have hBo := hB.1
  have hBa := hB.2.1
  refine z_entry (by decide) (Nat.le_of_ble_eq_true rfl) ?_
  intro p e s m below meth c ls X hr hml hlocks hP hl
  have hS : va_S A s.heap s.heap [] := va_S.rf
  have hl : lv_has ls 4 [(0, .ref (G 0)), (1, .long v), (3, .int g)] := hl
  refine lv_aload_n X.1 X.2.1 zd_W_target_0 rfl (lv_at hl 0 rfl) ?_
  refine g_cW_targets X hP zd_W_target_1 ?_
  refine lv_lload_n X.1 X.2.1 zd_W_target_4 rfl (lv_at hl 1 rfl) ?_
  refine lv_iload_n X.1 X.2.1 zd_W_target_5 rfl (lv_at hl 2 rfl) ?_
  refine lv_sipush (v := nI 255) X.1 X.2.1 zd_W_target_6 (by decide) ?_
  refine lv_iand X.1 X.2.1 zd_W_target_9 ?_
  refine z_callVi (As := [.long v, .int (g &&& (nI 255))]) (rest := []) (q0 := 1) (ci := 0) X hml (k_T_open_0 l K G A hD σ v (g &&& (nI 255)) ho) (zk_W_40 X.2.2.2.1 (z_rm (by omega) (by decide))) rfl rfl rfl hP hS rfl hl.1 rfl (Nat.le_of_ble_eq_true rfl) zd_W_target_10 ⟨Nat.zero_le _, Nat.zero_le _⟩ (fun H locs hP hS => ?_)
  exact z_iret X.1 X.2.1 hr hlocks rfl rfl hP hS zd_W_target_13

set_option maxHeartbeats 4000000 in
set_option maxRecDepth 100000 in
/-- alias: none such -/
theorem k_W_alias_n (l : Launch) (K : zK) (G : Nat → Nat) (A : Nat → Prop) (hD : ∀ σ, va_D A (cW K G σ)) (σ : cS) (x : Int32) (hx : cHas (cT_opened σ) x = 0) (hB : cB σ) : zMet l K A zy_W_alias zws_W_alias 1 [.ref (G 0), .int x] (cW K G σ) (cW K G σ) (some (.int (-1))) := by
  have hBo := hB.1
  have hBa := hB.2.1
  refine z_entry (by decide) (Nat.le_of_ble_eq_true rfl) ?_
  intro p e s m below meth c ls X hr hml hlocks hP hl
  have hS : va_S A s.heap s.heap [] := va_S.rf
  have hl : lv_has ls 2 [(0, .ref (G 0)), (1, .int x)] := hl
  refine lv_aload_n X.1 X.2.1 zd_W_alias_0 rfl (lv_at hl 0 rfl) ?_
  refine g_cW_targets X hP zd_W_alias_1 ?_
  refine lv_iload_n X.1 X.2.1 zd_W_alias_4 rfl (lv_at hl 1 rfl) ?_
  refine z_callVi (As := [.int x]) (rest := []) (q0 := 1) (ci := 0) X hml (k_T_has l K G A hD σ x) (zk_W_44 X.2.2.2.1 (z_rm (by omega) (by decide))) rfl rfl rfl hP hS rfl hl.1 rfl (Nat.le_of_ble_eq_true rfl) zd_W_alias_5 ⟨Nat.zero_le _, Nat.zero_le _⟩ (fun H locs hP hS => ?_)
  refine lv_if_eq (tgt := 22) X.1 X.2.1 zd_W_alias_8 (by decide) (fun _ => ?_) (fun h9 => absurd (by rw [hx]; rfl) h9)
  refine lv_iconst (v := -1) X.1 X.2.1 zd_W_alias_22 (by decide) ?_
  exact z_iret X.1 X.2.1 hr hlocks rfl rfl hP hS zd_W_alias_23

set_option maxHeartbeats 4000000 in
set_option maxRecDepth 100000 in
/-- alias: a new one -/
theorem k_W_alias_1 (l : Launch) (K : zK) (G : Nat → Nat) (A : Nat → Prop) (hD : ∀ σ, va_D A (cW K G σ)) (σ : cS) (n : Nat) (hn : n < cT_opened σ) (ho : cT_opened σ < 20) (hB : cB σ) : zMet l K A zy_W_alias zws_W_alias 1 [.ref (G 0), .int (nI n)] (cW K G σ) (cW K G (cOpenAlias σ n)) (some (.int (nI (cT_opened σ)))) := by
  have hBo := hB.1
  have hBa := hB.2.1
  refine z_entry (by decide) (Nat.le_of_ble_eq_true rfl) ?_
  intro p e s m below meth c ls X hr hml hlocks hP hl
  have hS : va_S A s.heap s.heap [] := va_S.rf
  have hl : lv_has ls 2 [(0, .ref (G 0)), (1, .int (nI n))] := hl
  refine lv_aload_n X.1 X.2.1 zd_W_alias_0 rfl (lv_at hl 0 rfl) ?_
  refine g_cW_targets X hP zd_W_alias_1 ?_
  refine lv_iload_n X.1 X.2.1 zd_W_alias_4 rfl (lv_at hl 1 rfl) ?_
  refine z_callVi (As := [.int (nI n)]) (rest := []) (q0 := 1) (ci := 0) X hml (k_T_has l K G A hD σ (nI n)) (zk_W_44 X.2.2.2.1 (z_rm (by omega) (by decide))) rfl rfl rfl hP hS rfl hl.1 rfl (Nat.le_of_ble_eq_true rfl) zd_W_alias_5 ⟨Nat.zero_le _, Nat.zero_le _⟩ (fun H locs hP hS => ?_)
  refine lv_if_eq (tgt := 22) X.1 X.2.1 zd_W_alias_8 (by decide) (fun h9 => absurd h9 (by rw [cHas_y hn (by omega)]; decide)) (fun _ => ?_)
  refine lv_aload_n X.1 X.2.1 zd_W_alias_11 rfl (lv_at hl 0 rfl) ?_
  refine g_cW_targets X hP zd_W_alias_12 ?_
  refine lv_iload_n X.1 X.2.1 zd_W_alias_15 rfl (lv_at hl 1 rfl) ?_
  refine z_callVi (As := [.int (nI n)]) (rest := []) (q0 := 1) (ci := 0) X hml (k_T_openAlias_1 l K G A hD σ n (by omega) ho) (zk_W_48 X.2.2.2.1 (z_rm (by omega) (by decide))) rfl rfl rfl hP hS rfl hl.1 rfl (Nat.le_of_ble_eq_true rfl) zd_W_alias_16 ⟨Nat.zero_le _, Nat.zero_le _⟩ (fun H locs hP hS => ?_)
  refine lv_goto (tgt := 23) X.1 X.2.1 zd_W_alias_19 (by decide) ?_
  exact z_iret X.1 X.2.1 hr hlocks rfl rfl hP hS zd_W_alias_23

set_option maxHeartbeats 4000000 in
set_option maxRecDepth 100000 in
/-- alias: full -/
theorem k_W_alias_0 (l : Launch) (K : zK) (G : Nat → Nat) (A : Nat → Prop) (hD : ∀ σ, va_D A (cW K G σ)) (σ : cS) (n : Nat) (hn : n < cT_opened σ) (ho : cT_opened σ = 20) (hB : cB σ) : zMet l K A zy_W_alias zws_W_alias 1 [.ref (G 0), .int (nI n)] (cW K G σ) (cW K G σ) (some (.int (-1))) := by
  have hBo := hB.1
  have hBa := hB.2.1
  refine z_entry (by decide) (Nat.le_of_ble_eq_true rfl) ?_
  intro p e s m below meth c ls X hr hml hlocks hP hl
  have hS : va_S A s.heap s.heap [] := va_S.rf
  have hl : lv_has ls 2 [(0, .ref (G 0)), (1, .int (nI n))] := hl
  refine lv_aload_n X.1 X.2.1 zd_W_alias_0 rfl (lv_at hl 0 rfl) ?_
  refine g_cW_targets X hP zd_W_alias_1 ?_
  refine lv_iload_n X.1 X.2.1 zd_W_alias_4 rfl (lv_at hl 1 rfl) ?_
  refine z_callVi (As := [.int (nI n)]) (rest := []) (q0 := 1) (ci := 0) X hml (k_T_has l K G A hD σ (nI n)) (zk_W_44 X.2.2.2.1 (z_rm (by omega) (by decide))) rfl rfl rfl hP hS rfl hl.1 rfl (Nat.le_of_ble_eq_true rfl) zd_W_alias_5 ⟨Nat.zero_le _, Nat.zero_le _⟩ (fun H locs hP hS => ?_)
  refine lv_if_eq (tgt := 22) X.1 X.2.1 zd_W_alias_8 (by decide) (fun h9 => absurd h9 (by rw [cHas_y hn (by omega)]; decide)) (fun _ => ?_)
  refine lv_aload_n X.1 X.2.1 zd_W_alias_11 rfl (lv_at hl 0 rfl) ?_
  refine g_cW_targets X hP zd_W_alias_12 ?_
  refine lv_iload_n X.1 X.2.1 zd_W_alias_15 rfl (lv_at hl 1 rfl) ?_
  refine z_callVi (As := [.int (nI n)]) (rest := []) (q0 := 1) (ci := 0) X hml (k_T_openAlias_0 l K G A hD σ n ho) (zk_W_48 X.2.2.2.1 (z_rm (by omega) (by decide))) rfl rfl rfl hP hS rfl hl.1 rfl (Nat.le_of_ble_eq_true rfl) zd_W_alias_16 ⟨Nat.zero_le _, Nat.zero_le _⟩ (fun H locs hP hS => ?_)
  refine lv_goto (tgt := 23) X.1 X.2.1 zd_W_alias_19 (by decide) ?_
  exact z_iret X.1 X.2.1 hr hlocks rfl rfl hP hS zd_W_alias_23

set_option maxHeartbeats 4000000 in
set_option maxRecDepth 100000 in
/-- stands: none such -/
theorem k_W_stands_n (l : Launch) (K : zK) (G : Nat → Nat) (A : Nat → Prop) (hD : ∀ σ, va_D A (cW K G σ)) (σ : cS) (x : Int32) (hx : cHas (cT_opened σ) x = 0) (hB : cB σ) : zMet l K A zy_W_stands zws_W_stands 1 [.ref (G 0), .int x] (cW K G σ) (cW K G σ) (some (.int (-1))) := by
  have hBo := hB.1
  have hBa := hB.2.1
  refine z_entry (by decide) (Nat.le_of_ble_eq_true rfl) ?_
  intro p e s m below meth c ls X hr hml hlocks hP hl
  have hS : va_S A s.heap s.heap [] := va_S.rf
  have hl : lv_has ls 2 [(0, .ref (G 0)), (1, .int x)] := hl
  refine lv_aload_n X.1 X.2.1 zd_W_stands_0 rfl (lv_at hl 0 rfl) ?_
  refine g_cW_targets X hP zd_W_stands_1 ?_
  refine lv_iload_n X.1 X.2.1 zd_W_stands_4 rfl (lv_at hl 1 rfl) ?_
  refine z_callVi (As := [.int x]) (rest := []) (q0 := 1) (ci := 0) X hml (k_T_has l K G A hD σ x) (zk_W_44 X.2.2.2.1 (z_rm (by omega) (by decide))) rfl rfl rfl hP hS rfl hl.1 rfl (Nat.le_of_ble_eq_true rfl) zd_W_stands_5 ⟨Nat.zero_le _, Nat.zero_le _⟩ (fun H locs hP hS => ?_)
  refine lv_if_eq (tgt := 22) X.1 X.2.1 zd_W_stands_8 (by decide) (fun _ => ?_) (fun h9 => absurd (by rw [hx]; rfl) h9)
  refine lv_iconst (v := -1) X.1 X.2.1 zd_W_stands_22 (by decide) ?_
  exact z_iret X.1 X.2.1 hr hlocks rfl rfl hP hS zd_W_stands_23

set_option maxHeartbeats 4000000 in
set_option maxRecDepth 100000 in
/-- stands -/
theorem k_W_stands_1 (l : Launch) (K : zK) (G : Nat → Nat) (A : Nat → Prop) (hD : ∀ σ, va_D A (cW K G σ)) (σ : cS) (n : Nat) (hn : n < cT_opened σ) (hB : cB σ) : zMet l K A zy_W_stands zws_W_stands 1 [.ref (G 0), .int (nI n)] (cW K G σ) (cW K G σ) (some (.int (nI (cT_ends σ n)))) := by
  have hBo := hB.1
  have hBa := hB.2.1
  refine z_entry (by decide) (Nat.le_of_ble_eq_true rfl) ?_
  intro p e s m below meth c ls X hr hml hlocks hP hl
  have hS : va_S A s.heap s.heap [] := va_S.rf
  have hl : lv_has ls 2 [(0, .ref (G 0)), (1, .int (nI n))] := hl
  refine lv_aload_n X.1 X.2.1 zd_W_stands_0 rfl (lv_at hl 0 rfl) ?_
  refine g_cW_targets X hP zd_W_stands_1 ?_
  refine lv_iload_n X.1 X.2.1 zd_W_stands_4 rfl (lv_at hl 1 rfl) ?_
  refine z_callVi (As := [.int (nI n)]) (rest := []) (q0 := 1) (ci := 0) X hml (k_T_has l K G A hD σ (nI n)) (zk_W_44 X.2.2.2.1 (z_rm (by omega) (by decide))) rfl rfl rfl hP hS rfl hl.1 rfl (Nat.le_of_ble_eq_true rfl) zd_W_stands_5 ⟨Nat.zero_le _, Nat.zero_le _⟩ (fun H locs hP hS => ?_)
  refine lv_if_eq (tgt := 22) X.1 X.2.1 zd_W_stands_8 (by decide) (fun h9 => absurd h9 (by rw [cHas_y hn (by omega)]; decide)) (fun _ => ?_)
  refine lv_aload_n X.1 X.2.1 zd_W_stands_11 rfl (lv_at hl 0 rfl) ?_
  refine g_cW_targets X hP zd_W_stands_12 ?_
  refine lv_iload_n X.1 X.2.1 zd_W_stands_15 rfl (lv_at hl 1 rfl) ?_
  refine z_callVi (As := [.int (nI n)]) (rest := []) (q0 := 1) (ci := 0) X hml (k_T_end l K G A hD σ n (by omega)) (zk_W_52 X.2.2.2.1 (z_rm (by omega) (by decide))) rfl rfl rfl hP hS rfl hl.1 rfl (Nat.le_of_ble_eq_true rfl) zd_W_stands_16 ⟨Nat.zero_le _, Nat.zero_le _⟩ (fun H locs hP hS => ?_)
  refine lv_goto (tgt := 23) X.1 X.2.1 zd_W_stands_19 (by decide) ?_
  exact z_iret X.1 X.2.1 hr hlocks rfl rfl hP hS zd_W_stands_23

theorem z_if_lt {c : Prop} [Decidable c] : (if c then (0 : Nat) else 1) < 2 ^ 31 := by split <;> decide
theorem z_if_lt' {c : Prop} [Decidable c] : (if c then (1 : Nat) else 0) < 2 ^ 31 := by split <;> decide
set_option maxHeartbeats 4000000 in
set_option maxRecDepth 100000 in
/-- add: refused -/
theorem k_W_add_bad (l : Launch) (K : zK) (G : Nat → Nat) (A : Nat → Prop) (hD : ∀ σ, va_D A (cW K G σ)) (σ : cS) (x y z : Int32) (h : ¬ ∃ n o w, n < cT_opened σ ∧ x = nI n ∧ o < cT_opened σ ∧ z = nI o ∧ cT_ends σ n = n ∧ w < 3 ∧ y = nI w ∧ o < n) (hB : cB σ) : zMet l K A zy_W_add zws_W_add 1 [.ref (G 0), .int x, .int y, .int z] (cW K G σ) (cW K G σ) (some (.int (nI 0))) := by
  have hBo := hB.1
  have hBa := hB.2.1
  refine z_entry (by decide) (Nat.le_of_ble_eq_true rfl) ?_
  intro p e s m below meth c ls X hr hml hlocks hP hl
  have hS : va_S A s.heap s.heap [] := va_S.rf
  have hl : lv_has ls 4 [(0, .ref (G 0)), (1, .int x), (2, .int y), (3, .int z)] := hl
  refine lv_aload_n X.1 X.2.1 zd_W_add_0 rfl (lv_at hl 0 rfl) ?_
  refine g_cW_targets X hP zd_W_add_1 ?_
  refine lv_iload_n X.1 X.2.1 zd_W_add_4 rfl (lv_at hl 1 rfl) ?_
  refine z_callVi (As := [.int x]) (rest := []) (q0 := 1) (ci := 0) X hml (k_T_has l K G A hD σ x) (zk_W_44 X.2.2.2.1 (z_rm (by omega) (by decide))) rfl rfl rfl hP hS rfl hl.1 rfl (Nat.le_of_ble_eq_true rfl) zd_W_add_5 ⟨Nat.zero_le _, Nat.zero_le _⟩ (fun H locs hP hS => ?_)
  refine lv_if_eq (tgt := 33) X.1 X.2.1 zd_W_add_8 (by decide) (fun c1 => ?_) (fun c1 => ?_)
  · rw [z_eq0 (cHas_lt _ _)] at c1
    refine lv_iconst (v := nI 0) X.1 X.2.1 zd_W_add_33 (by decide) ?_
    exact z_zret X.1 X.2.1 hr hlocks (Or.inl rfl) rfl rfl hP hS zd_W_add_34
  · rw [z_eq0 (cHas_lt _ _)] at c1
    obtain ⟨n, hn, rfl⟩ := cHas_ex (by omega) c1
    refine lv_aload_n X.1 X.2.1 zd_W_add_11 rfl (lv_at hl 0 rfl) ?_
    refine g_cW_targets X hP zd_W_add_12 ?_
    refine lv_iload_n X.1 X.2.1 zd_W_add_15 rfl (lv_at hl 3 rfl) ?_
    refine z_callVi (As := [.int z]) (rest := []) (q0 := 1) (ci := 0) X hml (k_T_has l K G A hD σ z) (zk_W_44 X.2.2.2.1 (z_rm (by omega) (by decide))) rfl rfl rfl hP hS rfl hl.1 rfl (Nat.le_of_ble_eq_true rfl) zd_W_add_16 ⟨Nat.zero_le _, Nat.zero_le _⟩ (fun H locs hP hS => ?_)
    refine lv_if_eq (tgt := 33) X.1 X.2.1 zd_W_add_19 (by decide) (fun c2 => ?_) (fun c2 => ?_)
    · rw [z_eq0 (cHas_lt _ _)] at c2
      refine lv_iconst (v := nI 0) X.1 X.2.1 zd_W_add_33 (by decide) ?_
      exact z_zret X.1 X.2.1 hr hlocks (Or.inl rfl) rfl rfl hP hS zd_W_add_34
    · rw [z_eq0 (cHas_lt _ _)] at c2
      obtain ⟨o, ho, rfl⟩ := cHas_ex (by omega) c2
      refine lv_aload_n X.1 X.2.1 zd_W_add_22 rfl (lv_at hl 0 rfl) ?_
      refine g_cW_targets X hP zd_W_add_23 ?_
      refine lv_iload_n X.1 X.2.1 zd_W_add_26 rfl (lv_at hl 1 rfl) ?_
      refine z_callVi (As := [.int (nI n)]) (rest := []) (q0 := 1) (ci := 0) X hml (k_T_isAlias l K G A hD σ n (by omega) (hB.2.2.1 _)) (zk_W_55 X.2.2.2.1 (z_rm (by omega) (by decide))) rfl rfl rfl hP hS rfl hl.1 rfl (Nat.le_of_ble_eq_true rfl) zd_W_add_27 ⟨Nat.zero_le _, Nat.zero_le _⟩ (fun H locs hP hS => ?_)
      refine lv_if_eq (tgt := 35) X.1 X.2.1 zd_W_add_30 (by decide) (fun c3 => ?_) (fun c3 => ?_)
      · rw [z_eq0 z_if_lt] at c3
        refine lv_iload_n X.1 X.2.1 zd_W_add_35 rfl (lv_at hl 2 rfl) ?_
        refine lv_if_lt (tgt := 49) X.1 X.2.1 zd_W_add_36 (by decide) (fun c4 => ?_) (fun c4 => ?_)
        · refine lv_iconst (v := nI 0) X.1 X.2.1 zd_W_add_49 (by decide) ?_
          exact z_zret X.1 X.2.1 hr hlocks (Or.inl rfl) rfl rfl hP hS zd_W_add_50
        · refine lv_iload_n X.1 X.2.1 zd_W_add_39 rfl (lv_at hl 2 rfl) ?_
          refine lv_iconst (v := nI 3) X.1 X.2.1 zd_W_add_40 (by decide) ?_
          refine lv_icmp_ge (tgt := 49) X.1 X.2.1 zd_W_add_41 (by decide) (fun c5 => ?_) (fun c5 => ?_)
          · refine lv_iconst (v := nI 0) X.1 X.2.1 zd_W_add_49 (by decide) ?_
            exact z_zret X.1 X.2.1 hr hlocks (Or.inl rfl) rfl rfl hP hS zd_W_add_50
          · obtain ⟨w, hw, rfl⟩ := z_rng c4 c5 (by decide)
            refine lv_iload_n X.1 X.2.1 zd_W_add_44 rfl (lv_at hl 3 rfl) ?_
            refine lv_iload_n X.1 X.2.1 zd_W_add_45 rfl (lv_at hl 1 rfl) ?_
            refine lv_icmp_lt (tgt := 51) X.1 X.2.1 zd_W_add_46 (by decide) (fun c6 => ?_) (fun c6 => ?_)
            · rw [nI_ltI (by omega) (by omega)] at c6
              exact absurd ⟨n, o, w, hn, rfl, ho, rfl, (by simpa using c3), hw, rfl, c6⟩ h
            · rw [nI_ltI (by omega) (by omega)] at c6
              refine lv_iconst (v := nI 0) X.1 X.2.1 zd_W_add_49 (by decide) ?_
              exact z_zret X.1 X.2.1 hr hlocks (Or.inl rfl) rfl rfl hP hS zd_W_add_50
      · rw [z_eq0 z_if_lt] at c3
        refine lv_iconst (v := nI 0) X.1 X.2.1 zd_W_add_33 (by decide) ?_
        exact z_zret X.1 X.2.1 hr hlocks (Or.inl rfl) rfl rfl hP hS zd_W_add_34

set_option maxHeartbeats 4000000 in
set_option maxRecDepth 100000 in
/-- add: the row is full -/
theorem k_W_add_0 (l : Launch) (K : zK) (G : Nat → Nat) (A : Nat → Prop) (hD : ∀ σ, va_D A (cW K G σ)) (σ : cS) (n w o : Nat) (hn : n < cT_opened σ) (ho : o < cT_opened σ) (he : cT_ends σ n = n) (hw : w < 3) (hon : o < n) (h4 : cT_rowLengths σ (n * 3 + w) = 4) (hB : cB σ) : zMet l K A zy_W_add zws_W_add 3 [.ref (G 0), .int (nI n), .int (nI w), .int (nI o)] (cW K G σ) (cW K G σ) (some (.int (nI 0))) := by
  have hBo := hB.1
  have hBa := hB.2.1
  refine z_entry (by decide) (Nat.le_of_ble_eq_true rfl) ?_
  intro p e s m below meth c ls X hr hml hlocks hP hl
  have hS : va_S A s.heap s.heap [] := va_S.rf
  have hl : lv_has ls 4 [(0, .ref (G 0)), (1, .int (nI n)), (2, .int (nI w)), (3, .int (nI o))] := hl
  refine lv_aload_n X.1 X.2.1 zd_W_add_0 rfl (lv_at hl 0 rfl) ?_
  refine g_cW_targets X hP zd_W_add_1 ?_
  refine lv_iload_n X.1 X.2.1 zd_W_add_4 rfl (lv_at hl 1 rfl) ?_
  refine z_callVi (As := [.int (nI n)]) (rest := []) (q0 := 1) (ci := 0) X hml (k_T_has l K G A hD σ (nI n)) (zk_W_44 X.2.2.2.1 (z_rm (by omega) (by decide))) rfl rfl rfl hP hS rfl hl.1 rfl (Nat.le_of_ble_eq_true rfl) zd_W_add_5 ⟨Nat.zero_le _, Nat.zero_le _⟩ (fun H locs hP hS => ?_)
  refine lv_if_eq (tgt := 33) X.1 X.2.1 zd_W_add_8 (by decide) (fun h9 => absurd h9 (by rw [cHas_y hn (by omega)]; decide)) (fun _ => ?_)
  refine lv_aload_n X.1 X.2.1 zd_W_add_11 rfl (lv_at hl 0 rfl) ?_
  refine g_cW_targets X hP zd_W_add_12 ?_
  refine lv_iload_n X.1 X.2.1 zd_W_add_15 rfl (lv_at hl 3 rfl) ?_
  refine z_callVi (As := [.int (nI o)]) (rest := []) (q0 := 1) (ci := 0) X hml (k_T_has l K G A hD σ (nI o)) (zk_W_44 X.2.2.2.1 (z_rm (by omega) (by decide))) rfl rfl rfl hP hS rfl hl.1 rfl (Nat.le_of_ble_eq_true rfl) zd_W_add_16 ⟨Nat.zero_le _, Nat.zero_le _⟩ (fun H locs hP hS => ?_)
  refine lv_if_eq (tgt := 33) X.1 X.2.1 zd_W_add_19 (by decide) (fun h9 => absurd h9 (by rw [cHas_y ho (by omega)]; decide)) (fun _ => ?_)
  refine lv_aload_n X.1 X.2.1 zd_W_add_22 rfl (lv_at hl 0 rfl) ?_
  refine g_cW_targets X hP zd_W_add_23 ?_
  refine lv_iload_n X.1 X.2.1 zd_W_add_26 rfl (lv_at hl 1 rfl) ?_
  refine z_callVi (As := [.int (nI n)]) (rest := []) (q0 := 1) (ci := 0) X hml (k_T_isAlias l K G A hD σ n (by omega) (hB.2.2.1 _)) (zk_W_55 X.2.2.2.1 (z_rm (by omega) (by decide))) rfl rfl rfl hP hS rfl hl.1 rfl (Nat.le_of_ble_eq_true rfl) zd_W_add_27 ⟨Nat.zero_le _, Nat.zero_le _⟩ (fun H locs hP hS => ?_)
  refine lv_if_eq (tgt := 35) X.1 X.2.1 zd_W_add_30 (by decide) (fun _ => ?_) (fun h9 => absurd (by rw [if_pos he]; rfl) h9)
  refine lv_iload_n X.1 X.2.1 zd_W_add_35 rfl (lv_at hl 2 rfl) ?_
  refine lv_if_lt (tgt := 49) X.1 X.2.1 zd_W_add_36 (by decide) (fun h9 => absurd h9 (nI_pos (by omega))) (fun _ => ?_)
  refine lv_iload_n X.1 X.2.1 zd_W_add_39 rfl (lv_at hl 2 rfl) ?_
  refine lv_iconst (v := nI 3) X.1 X.2.1 zd_W_add_40 (by decide) ?_
  refine lv_icmp_ge (tgt := 49) X.1 X.2.1 zd_W_add_41 (by decide) (fun h9 => absurd h9 (by rw [nI_leI (by omega) (by omega)]; omega)) (fun _ => ?_)
  refine lv_iload_n X.1 X.2.1 zd_W_add_44 rfl (lv_at hl 3 rfl) ?_
  refine lv_iload_n X.1 X.2.1 zd_W_add_45 rfl (lv_at hl 1 rfl) ?_
  refine lv_icmp_lt (tgt := 51) X.1 X.2.1 zd_W_add_46 (by decide) (fun _ => ?_) (fun h9 => absurd (by rw [nI_ltI (by omega) (by omega)]; omega) h9)
  refine lv_aload_n X.1 X.2.1 zd_W_add_51 rfl (lv_at hl 0 rfl) ?_
  refine g_cW_targets X hP zd_W_add_52 ?_
  refine lv_iload_n X.1 X.2.1 zd_W_add_55 rfl (lv_at hl 1 rfl) ?_
  refine lv_iload_n X.1 X.2.1 zd_W_add_56 rfl (lv_at hl 2 rfl) ?_
  refine lv_aload_n X.1 X.2.1 zd_W_add_57 rfl (lv_at hl 0 rfl) ?_
  refine g_cW_targets X hP zd_W_add_58 ?_
  refine lv_iload_n X.1 X.2.1 zd_W_add_61 rfl (lv_at hl 3 rfl) ?_
  refine z_callVi (As := [.int (nI o)]) (rest := [.int (nI w), .int (nI n), .ref (G 1)]) (q0 := 1) (ci := 0) X hml (k_T_end l K G A hD σ o (by omega)) (zk_W_52 X.2.2.2.1 (z_rm (by omega) (by decide))) rfl rfl rfl hP hS rfl hl.1 rfl (Nat.le_of_ble_eq_true rfl) zd_W_add_62 ⟨Nat.zero_le _, Nat.zero_le _⟩ (fun H locs hP hS => ?_)
  refine z_callVi (As := [.int (nI n), .int (nI w), .int (nI (cT_ends σ o))]) (rest := []) (q0 := 1) (ci := 0) X hml (k_T_append_0 l K G A hD σ n w (cT_ends σ o) (by omega) hw h4) (zk_W_58 X.2.2.2.1 (z_rm (by omega) (by decide))) rfl rfl rfl hP hS rfl hl.1 rfl (Nat.le_of_ble_eq_true rfl) zd_W_add_65 ⟨Nat.zero_le _, Nat.zero_le _⟩ (fun H locs hP hS => ?_)
  refine lv_if_ne (tgt := 73) X.1 X.2.1 zd_W_add_68 (by decide) (fun h9 => absurd (by decide) h9) (fun _ => ?_)
  refine lv_iconst (v := nI 0) X.1 X.2.1 zd_W_add_71 (by decide) ?_
  exact z_zret X.1 X.2.1 hr hlocks (Or.inl rfl) rfl rfl hP hS zd_W_add_72

set_option maxHeartbeats 4000000 in
set_option maxRecDepth 100000 in
/-- add -/
theorem k_W_add_1 (l : Launch) (K : zK) (G : Nat → Nat) (A : Nat → Prop) (hD : ∀ σ, va_D A (cW K G σ)) (σ : cS) (n w o : Nat) (hn : n < cT_opened σ) (ho : o < cT_opened σ) (he : cT_ends σ n = n) (hw : w < 3) (hon : o < n) (h4 : cT_rowLengths σ (n * 3 + w) < 4) (hB2 : cB (cAppend σ n w (cT_ends σ o))) (hB : cB σ) : zMet l K A zy_W_add zws_W_add 3 [.ref (G 0), .int (nI n), .int (nI w), .int (nI o)] (cW K G σ) (cW K G (cFF (cAppend σ n w (cT_ends σ o)) n (cT_opened (cAppend σ n w (cT_ends σ o))))) (some (.int (nI 1))) := by
  have hBo := hB.1
  have hBa := hB.2.1
  refine z_entry (by decide) (Nat.le_of_ble_eq_true rfl) ?_
  intro p e s m below meth c ls X hr hml hlocks hP hl
  have hS : va_S A s.heap s.heap [] := va_S.rf
  have hl : lv_has ls 4 [(0, .ref (G 0)), (1, .int (nI n)), (2, .int (nI w)), (3, .int (nI o))] := hl
  refine lv_aload_n X.1 X.2.1 zd_W_add_0 rfl (lv_at hl 0 rfl) ?_
  refine g_cW_targets X hP zd_W_add_1 ?_
  refine lv_iload_n X.1 X.2.1 zd_W_add_4 rfl (lv_at hl 1 rfl) ?_
  refine z_callVi (As := [.int (nI n)]) (rest := []) (q0 := 1) (ci := 0) X hml (k_T_has l K G A hD σ (nI n)) (zk_W_44 X.2.2.2.1 (z_rm (by omega) (by decide))) rfl rfl rfl hP hS rfl hl.1 rfl (Nat.le_of_ble_eq_true rfl) zd_W_add_5 ⟨Nat.zero_le _, Nat.zero_le _⟩ (fun H locs hP hS => ?_)
  refine lv_if_eq (tgt := 33) X.1 X.2.1 zd_W_add_8 (by decide) (fun h9 => absurd h9 (by rw [cHas_y hn (by omega)]; decide)) (fun _ => ?_)
  refine lv_aload_n X.1 X.2.1 zd_W_add_11 rfl (lv_at hl 0 rfl) ?_
  refine g_cW_targets X hP zd_W_add_12 ?_
  refine lv_iload_n X.1 X.2.1 zd_W_add_15 rfl (lv_at hl 3 rfl) ?_
  refine z_callVi (As := [.int (nI o)]) (rest := []) (q0 := 1) (ci := 0) X hml (k_T_has l K G A hD σ (nI o)) (zk_W_44 X.2.2.2.1 (z_rm (by omega) (by decide))) rfl rfl rfl hP hS rfl hl.1 rfl (Nat.le_of_ble_eq_true rfl) zd_W_add_16 ⟨Nat.zero_le _, Nat.zero_le _⟩ (fun H locs hP hS => ?_)
  refine lv_if_eq (tgt := 33) X.1 X.2.1 zd_W_add_19 (by decide) (fun h9 => absurd h9 (by rw [cHas_y ho (by omega)]; decide)) (fun _ => ?_)
  refine lv_aload_n X.1 X.2.1 zd_W_add_22 rfl (lv_at hl 0 rfl) ?_
  refine g_cW_targets X hP zd_W_add_23 ?_
  refine lv_iload_n X.1 X.2.1 zd_W_add_26 rfl (lv_at hl 1 rfl) ?_
  refine z_callVi (As := [.int (nI n)]) (rest := []) (q0 := 1) (ci := 0) X hml (k_T_isAlias l K G A hD σ n (by omega) (hB.2.2.1 _)) (zk_W_55 X.2.2.2.1 (z_rm (by omega) (by decide))) rfl rfl rfl hP hS rfl hl.1 rfl (Nat.le_of_ble_eq_true rfl) zd_W_add_27 ⟨Nat.zero_le _, Nat.zero_le _⟩ (fun H locs hP hS => ?_)
  refine lv_if_eq (tgt := 35) X.1 X.2.1 zd_W_add_30 (by decide) (fun _ => ?_) (fun h9 => absurd (by rw [if_pos he]; rfl) h9)
  refine lv_iload_n X.1 X.2.1 zd_W_add_35 rfl (lv_at hl 2 rfl) ?_
  refine lv_if_lt (tgt := 49) X.1 X.2.1 zd_W_add_36 (by decide) (fun h9 => absurd h9 (nI_pos (by omega))) (fun _ => ?_)
  refine lv_iload_n X.1 X.2.1 zd_W_add_39 rfl (lv_at hl 2 rfl) ?_
  refine lv_iconst (v := nI 3) X.1 X.2.1 zd_W_add_40 (by decide) ?_
  refine lv_icmp_ge (tgt := 49) X.1 X.2.1 zd_W_add_41 (by decide) (fun h9 => absurd h9 (by rw [nI_leI (by omega) (by omega)]; omega)) (fun _ => ?_)
  refine lv_iload_n X.1 X.2.1 zd_W_add_44 rfl (lv_at hl 3 rfl) ?_
  refine lv_iload_n X.1 X.2.1 zd_W_add_45 rfl (lv_at hl 1 rfl) ?_
  refine lv_icmp_lt (tgt := 51) X.1 X.2.1 zd_W_add_46 (by decide) (fun _ => ?_) (fun h9 => absurd (by rw [nI_ltI (by omega) (by omega)]; omega) h9)
  refine lv_aload_n X.1 X.2.1 zd_W_add_51 rfl (lv_at hl 0 rfl) ?_
  refine g_cW_targets X hP zd_W_add_52 ?_
  refine lv_iload_n X.1 X.2.1 zd_W_add_55 rfl (lv_at hl 1 rfl) ?_
  refine lv_iload_n X.1 X.2.1 zd_W_add_56 rfl (lv_at hl 2 rfl) ?_
  refine lv_aload_n X.1 X.2.1 zd_W_add_57 rfl (lv_at hl 0 rfl) ?_
  refine g_cW_targets X hP zd_W_add_58 ?_
  refine lv_iload_n X.1 X.2.1 zd_W_add_61 rfl (lv_at hl 3 rfl) ?_
  refine z_callVi (As := [.int (nI o)]) (rest := [.int (nI w), .int (nI n), .ref (G 1)]) (q0 := 1) (ci := 0) X hml (k_T_end l K G A hD σ o (by omega)) (zk_W_52 X.2.2.2.1 (z_rm (by omega) (by decide))) rfl rfl rfl hP hS rfl hl.1 rfl (Nat.le_of_ble_eq_true rfl) zd_W_add_62 ⟨Nat.zero_le _, Nat.zero_le _⟩ (fun H locs hP hS => ?_)
  refine z_callVi (As := [.int (nI n), .int (nI w), .int (nI (cT_ends σ o))]) (rest := []) (q0 := 1) (ci := 0) X hml (k_T_append_1 l K G A hD σ n w (cT_ends σ o) (by omega) hw (hB.2.2.1 _) hB.1 h4) (zk_W_58 X.2.2.2.1 (z_rm (by omega) (by decide))) rfl rfl rfl hP hS rfl hl.1 rfl (Nat.le_of_ble_eq_true rfl) zd_W_add_65 ⟨Nat.zero_le _, Nat.zero_le _⟩ (fun H locs hP hS => ?_)
  refine lv_if_ne (tgt := 73) X.1 X.2.1 zd_W_add_68 (by decide) (fun _ => ?_) (fun h9 => absurd h9 (by decide))
  refine lv_aload_n X.1 X.2.1 zd_W_add_73 rfl (lv_at hl 0 rfl) ?_
  refine lv_iload_n X.1 X.2.1 zd_W_add_74 rfl (lv_at hl 1 rfl) ?_
  refine z_callVv (As := [.int (nI n)]) (rest := []) (q0 := 0) (ci := 3) X hml (k_W_forgetFrom l K G A hD (cAppend σ n w (cT_ends σ o)) n hB2) (zk_W_62 X.2.2.2.1 (z_rm (by omega) (by decide))) rfl rfl rfl hP hS rfl hl.1 rfl (Nat.le_of_ble_eq_true rfl) zd_W_add_75 ⟨Nat.zero_le _, Nat.zero_le _⟩ (fun H locs hP hS => ?_)
  refine lv_iconst (v := nI 1) X.1 X.2.1 zd_W_add_78 (by decide) ?_
  exact z_zret X.1 X.2.1 hr hlocks (Or.inr rfl) rfl rfl hP hS zd_W_add_79

set_option maxHeartbeats 4000000 in
set_option maxRecDepth 100000 in
/-- change: refused -/
theorem k_W_change_bad (l : Launch) (K : zK) (G : Nat → Nat) (A : Nat → Prop) (hD : ∀ σ, va_D A (cW K G σ)) (σ : cS) (x : Int32) (v : Int64) (g : Int32) (h : ¬ ∃ n, n < cT_opened σ ∧ x = nI n ∧ cT_ends σ n = n) (hB : cB σ) : zMet l K A zy_W_change zws_W_change 1 [.ref (G 0), .int x, .long v, .int g] (cW K G σ) (cW K G σ) (some (.int (nI 0))) := by
  have hBo := hB.1
  have hBa := hB.2.1
  refine z_entry (by decide) (Nat.le_of_ble_eq_true rfl) ?_
  intro p e s m below meth c ls X hr hml hlocks hP hl
  have hS : va_S A s.heap s.heap [] := va_S.rf
  have hl : lv_has ls 5 [(0, .ref (G 0)), (1, .int x), (2, .long v), (4, .int g)] := hl
  refine lv_aload_n X.1 X.2.1 zd_W_change_0 rfl (lv_at hl 0 rfl) ?_
  refine g_cW_targets X hP zd_W_change_1 ?_
  refine lv_iload_n X.1 X.2.1 zd_W_change_4 rfl (lv_at hl 1 rfl) ?_
  refine z_callVi (As := [.int x]) (rest := []) (q0 := 1) (ci := 0) X hml (k_T_has l K G A hD σ x) (zk_W_44 X.2.2.2.1 (z_rm (by omega) (by decide))) rfl rfl rfl hP hS rfl hl.1 rfl (Nat.le_of_ble_eq_true rfl) zd_W_change_5 ⟨Nat.zero_le _, Nat.zero_le _⟩ (fun H locs hP hS => ?_)
  refine lv_if_eq (tgt := 22) X.1 X.2.1 zd_W_change_8 (by decide) (fun c1 => ?_) (fun c1 => ?_)
  · rw [z_eq0 (cHas_lt _ _)] at c1
    refine lv_iconst (v := nI 0) X.1 X.2.1 zd_W_change_22 (by decide) ?_
    exact z_zret X.1 X.2.1 hr hlocks (Or.inl rfl) rfl rfl hP hS zd_W_change_23
  · rw [z_eq0 (cHas_lt _ _)] at c1
    obtain ⟨n, hn, rfl⟩ := cHas_ex (by omega) c1
    refine lv_aload_n X.1 X.2.1 zd_W_change_11 rfl (lv_at hl 0 rfl) ?_
    refine g_cW_targets X hP zd_W_change_12 ?_
    refine lv_iload_n X.1 X.2.1 zd_W_change_15 rfl (lv_at hl 1 rfl) ?_
    refine z_callVi (As := [.int (nI n)]) (rest := []) (q0 := 1) (ci := 0) X hml (k_T_isAlias l K G A hD σ n (by omega) (hB.2.2.1 _)) (zk_W_55 X.2.2.2.1 (z_rm (by omega) (by decide))) rfl rfl rfl hP hS rfl hl.1 rfl (Nat.le_of_ble_eq_true rfl) zd_W_change_16 ⟨Nat.zero_le _, Nat.zero_le _⟩ (fun H locs hP hS => ?_)
    refine lv_if_eq (tgt := 24) X.1 X.2.1 zd_W_change_19 (by decide) (fun c2 => ?_) (fun c2 => ?_)
    · rw [z_eq0 z_if_lt] at c2
      exact absurd ⟨n, hn, rfl, (by simpa using c2)⟩ h
    · rw [z_eq0 z_if_lt] at c2
      refine lv_iconst (v := nI 0) X.1 X.2.1 zd_W_change_22 (by decide) ?_
      exact z_zret X.1 X.2.1 hr hlocks (Or.inl rfl) rfl rfl hP hS zd_W_change_23

set_option maxHeartbeats 4000000 in
set_option maxRecDepth 100000 in
/-- change: the same -/
theorem k_W_change_s (l : Launch) (K : zK) (G : Nat → Nat) (A : Nat → Prop) (hD : ∀ σ, va_D A (cW K G σ)) (σ : cS) (n : Nat) (v : Int64) (g : Int32) (hn : n < cT_opened σ) (he : cT_ends σ n = n) (hd : cDiffers σ n v (g &&& nI 255) = 0) (hB : cB σ) : zMet l K A zy_W_change zws_W_change 3 [.ref (G 0), .int (nI n), .long v, .int g] (cW K G σ) (cW K G (cAssign σ n v (g &&& nI 255))) (some (.int (nI 1))) := by
  have hBo := hB.1
  have hBa := hB.2.1
  refine z_entry (by decide) (Nat.le_of_ble_eq_true rfl) ?_
  intro p e s m below meth c ls X hr hml hlocks hP hl
  have hS : va_S A s.heap s.heap [] := va_S.rf
  have hl : lv_has ls 5 [(0, .ref (G 0)), (1, .int (nI n)), (2, .long v), (4, .int g)] := hl
  refine lv_aload_n X.1 X.2.1 zd_W_change_0 rfl (lv_at hl 0 rfl) ?_
  refine g_cW_targets X hP zd_W_change_1 ?_
  refine lv_iload_n X.1 X.2.1 zd_W_change_4 rfl (lv_at hl 1 rfl) ?_
  refine z_callVi (As := [.int (nI n)]) (rest := []) (q0 := 1) (ci := 0) X hml (k_T_has l K G A hD σ (nI n)) (zk_W_44 X.2.2.2.1 (z_rm (by omega) (by decide))) rfl rfl rfl hP hS rfl hl.1 rfl (Nat.le_of_ble_eq_true rfl) zd_W_change_5 ⟨Nat.zero_le _, Nat.zero_le _⟩ (fun H locs hP hS => ?_)
  refine lv_if_eq (tgt := 22) X.1 X.2.1 zd_W_change_8 (by decide) (fun h9 => absurd h9 (by rw [cHas_y hn (by omega)]; decide)) (fun _ => ?_)
  refine lv_aload_n X.1 X.2.1 zd_W_change_11 rfl (lv_at hl 0 rfl) ?_
  refine g_cW_targets X hP zd_W_change_12 ?_
  refine lv_iload_n X.1 X.2.1 zd_W_change_15 rfl (lv_at hl 1 rfl) ?_
  refine z_callVi (As := [.int (nI n)]) (rest := []) (q0 := 1) (ci := 0) X hml (k_T_isAlias l K G A hD σ n (by omega) (hB.2.2.1 _)) (zk_W_55 X.2.2.2.1 (z_rm (by omega) (by decide))) rfl rfl rfl hP hS rfl hl.1 rfl (Nat.le_of_ble_eq_true rfl) zd_W_change_16 ⟨Nat.zero_le _, Nat.zero_le _⟩ (fun H locs hP hS => ?_)
  refine lv_if_eq (tgt := 24) X.1 X.2.1 zd_W_change_19 (by decide) (fun _ => ?_) (fun h9 => absurd (by rw [if_pos he]; rfl) h9)
  refine lv_aload_n X.1 X.2.1 zd_W_change_24 rfl (lv_at hl 0 rfl) ?_
  refine g_cW_targets X hP zd_W_change_25 ?_
  refine lv_iload_n X.1 X.2.1 zd_W_change_28 rfl (lv_at hl 1 rfl) ?_
  refine lv_lload_n X.1 X.2.1 zd_W_change_29 rfl (lv_at hl 2 rfl) ?_
  refine lv_iload X.1 X.2.1 zd_W_change_30 (lv_at hl 3 rfl) ?_
  refine lv_sipush (v := nI 255) X.1 X.2.1 zd_W_change_32 (by decide) ?_
  refine lv_iand X.1 X.2.1 zd_W_change_35 ?_
  refine z_callVi (As := [.int (nI n), .long v, .int (g &&& (nI 255))]) (rest := []) (q0 := 1) (ci := 0) X hml (k_T_assign l K G A hD σ n v (g &&& (nI 255)) (by omega)) (zk_W_66 X.2.2.2.1 (z_rm (by omega) (by decide))) rfl rfl rfl hP hS rfl hl.1 rfl (Nat.le_of_ble_eq_true rfl) zd_W_change_36 ⟨Nat.zero_le _, Nat.zero_le _⟩ (fun H locs hP hS => ?_)
  refine lv_if_eq (tgt := 47) X.1 X.2.1 zd_W_change_39 (by decide) (fun _ => ?_) (fun h9 => absurd (by rw [hd]; rfl) h9)
  refine lv_iconst (v := nI 1) X.1 X.2.1 zd_W_change_47 (by decide) ?_
  exact z_zret X.1 X.2.1 hr hlocks (Or.inr rfl) rfl rfl hP hS zd_W_change_48

set_option maxHeartbeats 4000000 in
set_option maxRecDepth 100000 in
/-- change: another -/
theorem k_W_change_d (l : Launch) (K : zK) (G : Nat → Nat) (A : Nat → Prop) (hD : ∀ σ, va_D A (cW K G σ)) (σ : cS) (n : Nat) (v : Int64) (g : Int32) (hn : n < cT_opened σ) (he : cT_ends σ n = n) (hd : ¬ cDiffers σ n v (g &&& nI 255) = 0) (hB2 : cB (cAssign σ n v (g &&& nI 255))) (hB : cB σ) : zMet l K A zy_W_change zws_W_change 3 [.ref (G 0), .int (nI n), .long v, .int g] (cW K G σ) (cW K G (cFF (cAssign σ n v (g &&& nI 255)) n (cT_opened (cAssign σ n v (g &&& nI 255))))) (some (.int (nI 1))) := by
  have hBo := hB.1
  have hBa := hB.2.1
  refine z_entry (by decide) (Nat.le_of_ble_eq_true rfl) ?_
  intro p e s m below meth c ls X hr hml hlocks hP hl
  have hS : va_S A s.heap s.heap [] := va_S.rf
  have hl : lv_has ls 5 [(0, .ref (G 0)), (1, .int (nI n)), (2, .long v), (4, .int g)] := hl
  refine lv_aload_n X.1 X.2.1 zd_W_change_0 rfl (lv_at hl 0 rfl) ?_
  refine g_cW_targets X hP zd_W_change_1 ?_
  refine lv_iload_n X.1 X.2.1 zd_W_change_4 rfl (lv_at hl 1 rfl) ?_
  refine z_callVi (As := [.int (nI n)]) (rest := []) (q0 := 1) (ci := 0) X hml (k_T_has l K G A hD σ (nI n)) (zk_W_44 X.2.2.2.1 (z_rm (by omega) (by decide))) rfl rfl rfl hP hS rfl hl.1 rfl (Nat.le_of_ble_eq_true rfl) zd_W_change_5 ⟨Nat.zero_le _, Nat.zero_le _⟩ (fun H locs hP hS => ?_)
  refine lv_if_eq (tgt := 22) X.1 X.2.1 zd_W_change_8 (by decide) (fun h9 => absurd h9 (by rw [cHas_y hn (by omega)]; decide)) (fun _ => ?_)
  refine lv_aload_n X.1 X.2.1 zd_W_change_11 rfl (lv_at hl 0 rfl) ?_
  refine g_cW_targets X hP zd_W_change_12 ?_
  refine lv_iload_n X.1 X.2.1 zd_W_change_15 rfl (lv_at hl 1 rfl) ?_
  refine z_callVi (As := [.int (nI n)]) (rest := []) (q0 := 1) (ci := 0) X hml (k_T_isAlias l K G A hD σ n (by omega) (hB.2.2.1 _)) (zk_W_55 X.2.2.2.1 (z_rm (by omega) (by decide))) rfl rfl rfl hP hS rfl hl.1 rfl (Nat.le_of_ble_eq_true rfl) zd_W_change_16 ⟨Nat.zero_le _, Nat.zero_le _⟩ (fun H locs hP hS => ?_)
  refine lv_if_eq (tgt := 24) X.1 X.2.1 zd_W_change_19 (by decide) (fun _ => ?_) (fun h9 => absurd (by rw [if_pos he]; rfl) h9)
  refine lv_aload_n X.1 X.2.1 zd_W_change_24 rfl (lv_at hl 0 rfl) ?_
  refine g_cW_targets X hP zd_W_change_25 ?_
  refine lv_iload_n X.1 X.2.1 zd_W_change_28 rfl (lv_at hl 1 rfl) ?_
  refine lv_lload_n X.1 X.2.1 zd_W_change_29 rfl (lv_at hl 2 rfl) ?_
  refine lv_iload X.1 X.2.1 zd_W_change_30 (lv_at hl 3 rfl) ?_
  refine lv_sipush (v := nI 255) X.1 X.2.1 zd_W_change_32 (by decide) ?_
  refine lv_iand X.1 X.2.1 zd_W_change_35 ?_
  refine z_callVi (As := [.int (nI n), .long v, .int (g &&& (nI 255))]) (rest := []) (q0 := 1) (ci := 0) X hml (k_T_assign l K G A hD σ n v (g &&& (nI 255)) (by omega)) (zk_W_66 X.2.2.2.1 (z_rm (by omega) (by decide))) rfl rfl rfl hP hS rfl hl.1 rfl (Nat.le_of_ble_eq_true rfl) zd_W_change_36 ⟨Nat.zero_le _, Nat.zero_le _⟩ (fun H locs hP hS => ?_)
  refine lv_if_eq (tgt := 47) X.1 X.2.1 zd_W_change_39 (by decide) (fun h9 => absurd h9 (by rw [z_eq0 (by unfold cDiffers; split <;> decide)]; exact hd)) (fun _ => ?_)
  refine lv_aload_n X.1 X.2.1 zd_W_change_42 rfl (lv_at hl 0 rfl) ?_
  refine lv_iload_n X.1 X.2.1 zd_W_change_43 rfl (lv_at hl 1 rfl) ?_
  refine z_callVv (As := [.int (nI n)]) (rest := []) (q0 := 0) (ci := 3) X hml (k_W_forgetFrom l K G A hD (cAssign σ n v (g &&& (nI 255))) n hB2) (zk_W_62 X.2.2.2.1 (z_rm (by omega) (by decide))) rfl rfl rfl hP hS rfl hl.1 rfl (Nat.le_of_ble_eq_true rfl) zd_W_change_44 ⟨Nat.zero_le _, Nat.zero_le _⟩ (fun H locs hP hS => ?_)
  refine lv_iconst (v := nI 1) X.1 X.2.1 zd_W_change_47 (by decide) ?_
  exact z_zret X.1 X.2.1 hr hlocks (Or.inr rfl) rfl rfl hP hS zd_W_change_48

set_option maxHeartbeats 4000000 in
set_option maxRecDepth 100000 in
/-- aspect: refused -/
theorem k_W_aspect_bad (l : Launch) (K : zK) (G : Nat → Nat) (A : Nat → Prop) (hD : ∀ σ, va_D A (cW K G σ)) (σ : cS) (x al w g y : Int32) (h : ¬ ∃ q, q < 4 ∧ x = nI q ∧ ¬ y < -1 ∧ y < nI 10) (hB : cB σ) : zMet l K A zy_W_aspect zws_W_aspect 1 [.ref (G 0), .int x, .int al, .int w, .int g, .int y] (cW K G σ) (cW K G σ) (some (.int (-1))) := by
  have hBo := hB.1
  have hBa := hB.2.1
  refine z_entry (by decide) (Nat.le_of_ble_eq_true rfl) ?_
  intro p e s m below meth c ls X hr hml hlocks hP hl
  have hS : va_S A s.heap s.heap [] := va_S.rf
  have hl : lv_has ls 6 [(0, .ref (G 0)), (1, .int x), (2, .int al), (3, .int w), (4, .int g), (5, .int y)] := hl
  refine lv_iload_n X.1 X.2.1 zd_W_aspect_0 rfl (lv_at hl 1 rfl) ?_
  refine lv_if_lt (tgt := 22) X.1 X.2.1 zd_W_aspect_1 (by decide) (fun c1 => ?_) (fun c1 => ?_)
  · refine lv_iconst (v := -1) X.1 X.2.1 zd_W_aspect_22 (by decide) ?_
    exact z_iret X.1 X.2.1 hr hlocks rfl rfl hP hS zd_W_aspect_23
  · refine lv_iload_n X.1 X.2.1 zd_W_aspect_4 rfl (lv_at hl 1 rfl) ?_
    refine lv_iconst (v := nI 4) X.1 X.2.1 zd_W_aspect_5 (by decide) ?_
    refine lv_icmp_ge (tgt := 22) X.1 X.2.1 zd_W_aspect_6 (by decide) (fun c2 => ?_) (fun c2 => ?_)
    · refine lv_iconst (v := -1) X.1 X.2.1 zd_W_aspect_22 (by decide) ?_
      exact z_iret X.1 X.2.1 hr hlocks rfl rfl hP hS zd_W_aspect_23
    · obtain ⟨q, hq, rfl⟩ := z_rng c1 c2 (by decide)
      refine lv_iload X.1 X.2.1 zd_W_aspect_9 (lv_at hl 5 rfl) ?_
      refine lv_iconst (v := -1) X.1 X.2.1 zd_W_aspect_11 (by decide) ?_
      refine lv_icmp_lt (tgt := 22) X.1 X.2.1 zd_W_aspect_12 (by decide) (fun c3 => ?_) (fun c3 => ?_)
      · refine lv_iconst (v := -1) X.1 X.2.1 zd_W_aspect_22 (by decide) ?_
        exact z_iret X.1 X.2.1 hr hlocks rfl rfl hP hS zd_W_aspect_23
      · refine lv_iload X.1 X.2.1 zd_W_aspect_15 (lv_at hl 5 rfl) ?_
        refine lv_bipush (v := nI 10) X.1 X.2.1 zd_W_aspect_17 (by decide) ?_
        refine lv_icmp_lt (tgt := 24) X.1 X.2.1 zd_W_aspect_19 (by decide) (fun c4 => ?_) (fun c4 => ?_)
        · exact absurd ⟨q, hq, rfl, c3, c4⟩ h
        · refine lv_iconst (v := -1) X.1 X.2.1 zd_W_aspect_22 (by decide) ?_
          exact z_iret X.1 X.2.1 hr hlocks rfl rfl hP hS zd_W_aspect_23

set_option maxHeartbeats 4000000 in
set_option maxRecDepth 100000 in
/-- aspect: a new one -/
theorem k_W_aspect_1 (l : Launch) (K : zK) (G : Nat → Nat) (A : Nat → Prop) (hD : ∀ σ, va_D A (cW K G σ)) (σ : cS) (q : Nat) (al w g y : Int32) (hq : q < 4) (h1 : ¬ y < -1) (h2 : y < nI 10) (ho : cA_opened σ < 8) (hB : cB σ) : zMet l K A zy_W_aspect zws_W_aspect 1 [.ref (G 0), .int (nI q), .int al, .int w, .int g, .int y] (cW K G σ) (cW K G (cOpenA σ q (al &&& nI 7) (w &&& nI 255) (g &&& nI 255) y)) (some (.int (nI (cA_opened σ)))) := by
  have hBo := hB.1
  have hBa := hB.2.1
  refine z_entry (by decide) (Nat.le_of_ble_eq_true rfl) ?_
  intro p e s m below meth c ls X hr hml hlocks hP hl
  have hS : va_S A s.heap s.heap [] := va_S.rf
  have hl : lv_has ls 6 [(0, .ref (G 0)), (1, .int (nI q)), (2, .int al), (3, .int w), (4, .int g), (5, .int y)] := hl
  refine lv_iload_n X.1 X.2.1 zd_W_aspect_0 rfl (lv_at hl 1 rfl) ?_
  refine lv_if_lt (tgt := 22) X.1 X.2.1 zd_W_aspect_1 (by decide) (fun h9 => absurd h9 (nI_pos (by omega))) (fun _ => ?_)
  refine lv_iload_n X.1 X.2.1 zd_W_aspect_4 rfl (lv_at hl 1 rfl) ?_
  refine lv_iconst (v := nI 4) X.1 X.2.1 zd_W_aspect_5 (by decide) ?_
  refine lv_icmp_ge (tgt := 22) X.1 X.2.1 zd_W_aspect_6 (by decide) (fun h9 => absurd h9 (by rw [nI_leI (by omega) (by omega)]; omega)) (fun _ => ?_)
  refine lv_iload X.1 X.2.1 zd_W_aspect_9 (lv_at hl 5 rfl) ?_
  refine lv_iconst (v := -1) X.1 X.2.1 zd_W_aspect_11 (by decide) ?_
  refine lv_icmp_lt (tgt := 22) X.1 X.2.1 zd_W_aspect_12 (by decide) (fun h9 => absurd h9 h1) (fun _ => ?_)
  refine lv_iload X.1 X.2.1 zd_W_aspect_15 (lv_at hl 5 rfl) ?_
  refine lv_bipush (v := nI 10) X.1 X.2.1 zd_W_aspect_17 (by decide) ?_
  refine lv_icmp_lt (tgt := 24) X.1 X.2.1 zd_W_aspect_19 (by decide) (fun _ => ?_) (fun h9 => absurd h2 h9)
  refine lv_aload_n X.1 X.2.1 zd_W_aspect_24 rfl (lv_at hl 0 rfl) ?_
  refine g_cW_aspects X hP zd_W_aspect_25 ?_
  refine lv_iload_n X.1 X.2.1 zd_W_aspect_28 rfl (lv_at hl 1 rfl) ?_
  refine lv_iload_n X.1 X.2.1 zd_W_aspect_29 rfl (lv_at hl 2 rfl) ?_
  refine lv_bipush (v := nI 7) X.1 X.2.1 zd_W_aspect_30 (by decide) ?_
  refine lv_iand X.1 X.2.1 zd_W_aspect_32 ?_
  refine lv_iload_n X.1 X.2.1 zd_W_aspect_33 rfl (lv_at hl 3 rfl) ?_
  refine lv_sipush (v := nI 255) X.1 X.2.1 zd_W_aspect_34 (by decide) ?_
  refine lv_iand X.1 X.2.1 zd_W_aspect_37 ?_
  refine lv_iload X.1 X.2.1 zd_W_aspect_38 (lv_at hl 4 rfl) ?_
  refine lv_sipush (v := nI 255) X.1 X.2.1 zd_W_aspect_40 (by decide) ?_
  refine lv_iand X.1 X.2.1 zd_W_aspect_43 ?_
  refine lv_iload X.1 X.2.1 zd_W_aspect_44 (lv_at hl 5 rfl) ?_
  refine z_callVi (As := [.int (nI q), .int (al &&& (nI 7)), .int (w &&& (nI 255)), .int (g &&& (nI 255)), .int y]) (rest := []) (q0 := 2) (ci := 1) X hml (k_A_open_1 l K G A hD σ q (al &&& (nI 7)) (w &&& (nI 255)) (g &&& (nI 255)) y ho) (zk_W_70 X.2.2.2.1 (z_rm (by omega) (by decide))) rfl rfl rfl hP hS rfl hl.1 rfl (Nat.le_of_ble_eq_true rfl) zd_W_aspect_46 ⟨Nat.zero_le _, Nat.zero_le _⟩ (fun H locs hP hS => ?_)
  exact z_iret X.1 X.2.1 hr hlocks rfl rfl hP hS zd_W_aspect_49

set_option maxHeartbeats 4000000 in
set_option maxRecDepth 100000 in
/-- aspect: full -/
theorem k_W_aspect_0 (l : Launch) (K : zK) (G : Nat → Nat) (A : Nat → Prop) (hD : ∀ σ, va_D A (cW K G σ)) (σ : cS) (q : Nat) (al w g y : Int32) (hq : q < 4) (h1 : ¬ y < -1) (h2 : y < nI 10) (ho : cA_opened σ = 8) (hB : cB σ) : zMet l K A zy_W_aspect zws_W_aspect 1 [.ref (G 0), .int (nI q), .int al, .int w, .int g, .int y] (cW K G σ) (cW K G σ) (some (.int (-1))) := by
  have hBo := hB.1
  have hBa := hB.2.1
  refine z_entry (by decide) (Nat.le_of_ble_eq_true rfl) ?_
  intro p e s m below meth c ls X hr hml hlocks hP hl
  have hS : va_S A s.heap s.heap [] := va_S.rf
  have hl : lv_has ls 6 [(0, .ref (G 0)), (1, .int (nI q)), (2, .int al), (3, .int w), (4, .int g), (5, .int y)] := hl
  refine lv_iload_n X.1 X.2.1 zd_W_aspect_0 rfl (lv_at hl 1 rfl) ?_
  refine lv_if_lt (tgt := 22) X.1 X.2.1 zd_W_aspect_1 (by decide) (fun h9 => absurd h9 (nI_pos (by omega))) (fun _ => ?_)
  refine lv_iload_n X.1 X.2.1 zd_W_aspect_4 rfl (lv_at hl 1 rfl) ?_
  refine lv_iconst (v := nI 4) X.1 X.2.1 zd_W_aspect_5 (by decide) ?_
  refine lv_icmp_ge (tgt := 22) X.1 X.2.1 zd_W_aspect_6 (by decide) (fun h9 => absurd h9 (by rw [nI_leI (by omega) (by omega)]; omega)) (fun _ => ?_)
  refine lv_iload X.1 X.2.1 zd_W_aspect_9 (lv_at hl 5 rfl) ?_
  refine lv_iconst (v := -1) X.1 X.2.1 zd_W_aspect_11 (by decide) ?_
  refine lv_icmp_lt (tgt := 22) X.1 X.2.1 zd_W_aspect_12 (by decide) (fun h9 => absurd h9 h1) (fun _ => ?_)
  refine lv_iload X.1 X.2.1 zd_W_aspect_15 (lv_at hl 5 rfl) ?_
  refine lv_bipush (v := nI 10) X.1 X.2.1 zd_W_aspect_17 (by decide) ?_
  refine lv_icmp_lt (tgt := 24) X.1 X.2.1 zd_W_aspect_19 (by decide) (fun _ => ?_) (fun h9 => absurd h2 h9)
  refine lv_aload_n X.1 X.2.1 zd_W_aspect_24 rfl (lv_at hl 0 rfl) ?_
  refine g_cW_aspects X hP zd_W_aspect_25 ?_
  refine lv_iload_n X.1 X.2.1 zd_W_aspect_28 rfl (lv_at hl 1 rfl) ?_
  refine lv_iload_n X.1 X.2.1 zd_W_aspect_29 rfl (lv_at hl 2 rfl) ?_
  refine lv_bipush (v := nI 7) X.1 X.2.1 zd_W_aspect_30 (by decide) ?_
  refine lv_iand X.1 X.2.1 zd_W_aspect_32 ?_
  refine lv_iload_n X.1 X.2.1 zd_W_aspect_33 rfl (lv_at hl 3 rfl) ?_
  refine lv_sipush (v := nI 255) X.1 X.2.1 zd_W_aspect_34 (by decide) ?_
  refine lv_iand X.1 X.2.1 zd_W_aspect_37 ?_
  refine lv_iload X.1 X.2.1 zd_W_aspect_38 (lv_at hl 4 rfl) ?_
  refine lv_sipush (v := nI 255) X.1 X.2.1 zd_W_aspect_40 (by decide) ?_
  refine lv_iand X.1 X.2.1 zd_W_aspect_43 ?_
  refine lv_iload X.1 X.2.1 zd_W_aspect_44 (lv_at hl 5 rfl) ?_
  refine z_callVi (As := [.int (nI q), .int (al &&& (nI 7)), .int (w &&& (nI 255)), .int (g &&& (nI 255)), .int y]) (rest := []) (q0 := 2) (ci := 1) X hml (k_A_open_0 l K G A hD σ q (al &&& (nI 7)) (w &&& (nI 255)) (g &&& (nI 255)) y ho) (zk_W_70 X.2.2.2.1 (z_rm (by omega) (by decide))) rfl rfl rfl hP hS rfl hl.1 rfl (Nat.le_of_ble_eq_true rfl) zd_W_aspect_46 ⟨Nat.zero_le _, Nat.zero_le _⟩ (fun H locs hP hS => ?_)
  exact z_iret X.1 X.2.1 hr hlocks rfl rfl hP hS zd_W_aspect_49

set_option maxHeartbeats 4000000 in
set_option maxRecDepth 100000 in
/-- need: refused -/
theorem k_W_need_bad (l : Launch) (K : zK) (G : Nat → Nat) (A : Nat → Prop) (hD : ∀ σ, va_D A (cW K G σ)) (σ : cS) (x y : Int32) (h : ¬ ∃ n o, n < cA_opened σ ∧ x = nI n ∧ o < cA_opened σ ∧ y = nI o ∧ cDirect σ n o (cA_needCounts σ n) = false ∧ cA_needCounts σ n < 3) (hB : cB σ) : zMet l K A zy_W_need zws_W_need 2 [.ref (G 0), .int x, .int y] (cW K G σ) (cW K G σ) (some (.int (-1))) := by
  have hBo := hB.1
  have hBa := hB.2.1
  refine z_entry (by decide) (Nat.le_of_ble_eq_true rfl) ?_
  intro p e s m below meth c ls X hr hml hlocks hP hl
  have hS : va_S A s.heap s.heap [] := va_S.rf
  have hl : lv_has ls 3 [(0, .ref (G 0)), (1, .int x), (2, .int y)] := hl
  refine lv_aload_n X.1 X.2.1 zd_W_need_0 rfl (lv_at hl 0 rfl) ?_
  refine g_cW_aspects X hP zd_W_need_1 ?_
  refine lv_iload_n X.1 X.2.1 zd_W_need_4 rfl (lv_at hl 1 rfl) ?_
  refine z_callVi (As := [.int x]) (rest := []) (q0 := 2) (ci := 1) X hml (k_A_has l K G A hD σ x) (zk_W_73 X.2.2.2.1 (z_rm (by omega) (by decide))) rfl rfl rfl hP hS rfl hl.1 rfl (Nat.le_of_ble_eq_true rfl) zd_W_need_5 ⟨Nat.zero_le _, Nat.zero_le _⟩ (fun H locs hP hS => ?_)
  refine lv_if_eq (tgt := 22) X.1 X.2.1 zd_W_need_8 (by decide) (fun c1 => ?_) (fun c1 => ?_)
  · rw [z_eq0 (cHas_lt _ _)] at c1
    refine lv_iconst (v := -1) X.1 X.2.1 zd_W_need_22 (by decide) ?_
    exact z_iret X.1 X.2.1 hr hlocks rfl rfl hP hS zd_W_need_23
  · rw [z_eq0 (cHas_lt _ _)] at c1
    obtain ⟨n, hn, rfl⟩ := cHas_ex (by omega) c1
    have hc3 := hB.2.2.2.2.2.2.1 n
    refine lv_aload_n X.1 X.2.1 zd_W_need_11 rfl (lv_at hl 0 rfl) ?_
    refine g_cW_aspects X hP zd_W_need_12 ?_
    refine lv_iload_n X.1 X.2.1 zd_W_need_15 rfl (lv_at hl 2 rfl) ?_
    refine z_callVi (As := [.int y]) (rest := []) (q0 := 2) (ci := 1) X hml (k_A_has l K G A hD σ y) (zk_W_73 X.2.2.2.1 (z_rm (by omega) (by decide))) rfl rfl rfl hP hS rfl hl.1 rfl (Nat.le_of_ble_eq_true rfl) zd_W_need_16 ⟨Nat.zero_le _, Nat.zero_le _⟩ (fun H locs hP hS => ?_)
    refine lv_if_ne (tgt := 24) X.1 X.2.1 zd_W_need_19 (by decide) (fun c2 => ?_) (fun c2 => ?_)
    · rw [z_eq0 (cHas_lt _ _)] at c2
      obtain ⟨o, ho, rfl⟩ := cHas_ex (by omega) c2
      refine lv_aload_n X.1 X.2.1 zd_W_need_24 rfl (lv_at hl 0 rfl) ?_
      refine g_cW_aspects X hP zd_W_need_25 ?_
      refine lv_iload_n X.1 X.2.1 zd_W_need_28 rfl (lv_at hl 1 rfl) ?_
      refine lv_iload_n X.1 X.2.1 zd_W_need_29 rfl (lv_at hl 2 rfl) ?_
      refine z_callVi (As := [.int (nI n), .int (nI o)]) (rest := []) (q0 := 2) (ci := 1) X hml (k_A_needsDirectly l K G A hD σ n o (by omega) (by omega) (hB.2.2.2.2.2.2.1 _) hB.2.2.2.2.2.1) (zk_W_74 X.2.2.2.1 (z_rm (by omega) (by decide))) rfl rfl rfl hP hS rfl hl.1 rfl (Nat.le_of_ble_eq_true rfl) zd_W_need_30 ⟨Nat.zero_le _, Nat.zero_le _⟩ (fun H locs hP hS => ?_)
      refine lv_if_ne (tgt := 48) X.1 X.2.1 zd_W_need_33 (by decide) (fun c3 => ?_) (fun c3 => ?_)
      · rw [z_eq0 (b01_lt _)] at c3
        refine lv_iconst (v := -1) X.1 X.2.1 zd_W_need_48 (by decide) ?_
        exact z_iret X.1 X.2.1 hr hlocks rfl rfl hP hS zd_W_need_49
      · rw [z_eq0 (b01_lt _)] at c3
        refine lv_aload_n X.1 X.2.1 zd_W_need_36 rfl (lv_at hl 0 rfl) ?_
        refine g_cW_aspects X hP zd_W_need_37 ?_
        refine lv_iload_n X.1 X.2.1 zd_W_need_40 rfl (lv_at hl 1 rfl) ?_
        refine z_callVi (As := [.int (nI n)]) (rest := []) (q0 := 2) (ci := 1) X hml (k_A_needCount l K G A hD σ n (by omega)) (zk_W_78 X.2.2.2.1 (z_rm (by omega) (by decide))) rfl rfl rfl hP hS rfl hl.1 rfl (Nat.le_of_ble_eq_true rfl) zd_W_need_41 ⟨Nat.zero_le _, Nat.zero_le _⟩ (fun H locs hP hS => ?_)
        refine lv_iconst (v := nI 3) X.1 X.2.1 zd_W_need_44 (by decide) ?_
        refine lv_icmp_lt (tgt := 50) X.1 X.2.1 zd_W_need_45 (by decide) (fun c4 => ?_) (fun c4 => ?_)
        · rw [nI_ltI (by omega) (by omega)] at c4
          exact absurd ⟨n, o, hn, rfl, ho, rfl, (by simpa [b01] using c3), (by omega)⟩ h
        · rw [nI_ltI (by omega) (by omega)] at c4
          refine lv_iconst (v := -1) X.1 X.2.1 zd_W_need_48 (by decide) ?_
          exact z_iret X.1 X.2.1 hr hlocks rfl rfl hP hS zd_W_need_49
    · rw [z_eq0 (cHas_lt _ _)] at c2
      refine lv_iconst (v := -1) X.1 X.2.1 zd_W_need_22 (by decide) ?_
      exact z_iret X.1 X.2.1 hr hlocks rfl rfl hP hS zd_W_need_23

set_option maxHeartbeats 4000000 in
set_option maxRecDepth 100000 in
/-- need: a ring -/
theorem k_W_need_r (l : Launch) (K : zK) (G : Nat → Nat) (A : Nat → Prop) (hD : ∀ σ, va_D A (cW K G σ)) (σ : cS) (n o : Nat) (hn : n < cA_opened σ) (ho : o < cA_opened σ) (hd : cDirect σ n o (cA_needCounts σ n) = false) (h3 : cA_needCounts σ n < 3) (hrr : ¬ cLead (cA_reached σ o) n = 0) (hB : cB σ) : zMet l K A zy_W_need zws_W_need 2 [.ref (G 0), .int (nI n), .int (nI o)] (cW K G σ) (cW K G σ) (some (.int (-2))) := by
  have hBo := hB.1
  have hBa := hB.2.1
  refine z_entry (by decide) (Nat.le_of_ble_eq_true rfl) ?_
  intro p e s m below meth c ls X hr hml hlocks hP hl
  have hS : va_S A s.heap s.heap [] := va_S.rf
  have hl : lv_has ls 3 [(0, .ref (G 0)), (1, .int (nI n)), (2, .int (nI o))] := hl
  refine lv_aload_n X.1 X.2.1 zd_W_need_0 rfl (lv_at hl 0 rfl) ?_
  refine g_cW_aspects X hP zd_W_need_1 ?_
  refine lv_iload_n X.1 X.2.1 zd_W_need_4 rfl (lv_at hl 1 rfl) ?_
  refine z_callVi (As := [.int (nI n)]) (rest := []) (q0 := 2) (ci := 1) X hml (k_A_has l K G A hD σ (nI n)) (zk_W_73 X.2.2.2.1 (z_rm (by omega) (by decide))) rfl rfl rfl hP hS rfl hl.1 rfl (Nat.le_of_ble_eq_true rfl) zd_W_need_5 ⟨Nat.zero_le _, Nat.zero_le _⟩ (fun H locs hP hS => ?_)
  refine lv_if_eq (tgt := 22) X.1 X.2.1 zd_W_need_8 (by decide) (fun h9 => absurd h9 (by rw [cHas_y hn (by omega)]; decide)) (fun _ => ?_)
  refine lv_aload_n X.1 X.2.1 zd_W_need_11 rfl (lv_at hl 0 rfl) ?_
  refine g_cW_aspects X hP zd_W_need_12 ?_
  refine lv_iload_n X.1 X.2.1 zd_W_need_15 rfl (lv_at hl 2 rfl) ?_
  refine z_callVi (As := [.int (nI o)]) (rest := []) (q0 := 2) (ci := 1) X hml (k_A_has l K G A hD σ (nI o)) (zk_W_73 X.2.2.2.1 (z_rm (by omega) (by decide))) rfl rfl rfl hP hS rfl hl.1 rfl (Nat.le_of_ble_eq_true rfl) zd_W_need_16 ⟨Nat.zero_le _, Nat.zero_le _⟩ (fun H locs hP hS => ?_)
  refine lv_if_ne (tgt := 24) X.1 X.2.1 zd_W_need_19 (by decide) (fun _ => ?_) (fun h9 => absurd h9 (by rw [cHas_y ho (by omega)]; decide))
  refine lv_aload_n X.1 X.2.1 zd_W_need_24 rfl (lv_at hl 0 rfl) ?_
  refine g_cW_aspects X hP zd_W_need_25 ?_
  refine lv_iload_n X.1 X.2.1 zd_W_need_28 rfl (lv_at hl 1 rfl) ?_
  refine lv_iload_n X.1 X.2.1 zd_W_need_29 rfl (lv_at hl 2 rfl) ?_
  refine z_callVi (As := [.int (nI n), .int (nI o)]) (rest := []) (q0 := 2) (ci := 1) X hml (k_A_needsDirectly l K G A hD σ n o (by omega) (by omega) (hB.2.2.2.2.2.2.1 _) hB.2.2.2.2.2.1) (zk_W_74 X.2.2.2.1 (z_rm (by omega) (by decide))) rfl rfl rfl hP hS rfl hl.1 rfl (Nat.le_of_ble_eq_true rfl) zd_W_need_30 ⟨Nat.zero_le _, Nat.zero_le _⟩ (fun H locs hP hS => ?_)
  refine lv_if_ne (tgt := 48) X.1 X.2.1 zd_W_need_33 (by decide) (fun h9 => absurd (by rw [hd]; decide) h9) (fun _ => ?_)
  refine lv_aload_n X.1 X.2.1 zd_W_need_36 rfl (lv_at hl 0 rfl) ?_
  refine g_cW_aspects X hP zd_W_need_37 ?_
  refine lv_iload_n X.1 X.2.1 zd_W_need_40 rfl (lv_at hl 1 rfl) ?_
  refine z_callVi (As := [.int (nI n)]) (rest := []) (q0 := 2) (ci := 1) X hml (k_A_needCount l K G A hD σ n (by omega)) (zk_W_78 X.2.2.2.1 (z_rm (by omega) (by decide))) rfl rfl rfl hP hS rfl hl.1 rfl (Nat.le_of_ble_eq_true rfl) zd_W_need_41 ⟨Nat.zero_le _, Nat.zero_le _⟩ (fun H locs hP hS => ?_)
  refine lv_iconst (v := nI 3) X.1 X.2.1 zd_W_need_44 (by decide) ?_
  refine lv_icmp_lt (tgt := 50) X.1 X.2.1 zd_W_need_45 (by decide) (fun _ => ?_) (fun h9 => absurd (by rw [nI_ltI (by omega) (by omega)]; omega) h9)
  refine lv_aload_n X.1 X.2.1 zd_W_need_50 rfl (lv_at hl 0 rfl) ?_
  refine g_cW_aspects X hP zd_W_need_51 ?_
  refine lv_iload_n X.1 X.2.1 zd_W_need_54 rfl (lv_at hl 2 rfl) ?_
  refine lv_iload_n X.1 X.2.1 zd_W_need_55 rfl (lv_at hl 1 rfl) ?_
  refine z_callVi (As := [.int (nI o), .int (nI n)]) (rest := []) (q0 := 2) (ci := 1) X hml (k_A_leadsTo l K G A hD σ o n (by omega)) (zk_W_81 X.2.2.2.1 (z_rm (by omega) (by decide))) rfl rfl rfl hP hS rfl hl.1 rfl (Nat.le_of_ble_eq_true rfl) zd_W_need_56 ⟨Nat.zero_le _, Nat.zero_le _⟩ (fun H locs hP hS => ?_)
  refine lv_if_eq (tgt := 65) X.1 X.2.1 zd_W_need_59 (by decide) (fun h9 => absurd h9 (by rw [z_eq0 (cLead_lt _ _)]; exact hrr)) (fun _ => ?_)
  refine lv_bipush (v := -2) X.1 X.2.1 zd_W_need_62 (by decide) ?_
  exact z_iret X.1 X.2.1 hr hlocks rfl rfl hP hS zd_W_need_64

set_option maxHeartbeats 4000000 in
set_option maxRecDepth 100000 in
/-- need -/
theorem k_W_need_1 (l : Launch) (K : zK) (G : Nat → Nat) (A : Nat → Prop) (hD : ∀ σ, va_D A (cW K G σ)) (σ : cS) (n o : Nat) (hn : n < cA_opened σ) (ho : o < cA_opened σ) (hd : cDirect σ n o (cA_needCounts σ n) = false) (h3 : cA_needCounts σ n < 3) (hr0 : cLead (cA_reached σ o) n = 0) (hB2 : cB (cAppendNeed σ n o)) (hB : cB σ) : zMet l K A zy_W_need zws_W_need 3 [.ref (G 0), .int (nI n), .int (nI o)] (cW K G σ) (cW K G (cFA (cAppendNeed σ n o) n (cA_opened (cAppendNeed σ n o)))) (some (.int (nI 1))) := by
  have hBo := hB.1
  have hBa := hB.2.1
  refine z_entry (by decide) (Nat.le_of_ble_eq_true rfl) ?_
  intro p e s m below meth c ls X hr hml hlocks hP hl
  have hS : va_S A s.heap s.heap [] := va_S.rf
  have hl : lv_has ls 3 [(0, .ref (G 0)), (1, .int (nI n)), (2, .int (nI o))] := hl
  refine lv_aload_n X.1 X.2.1 zd_W_need_0 rfl (lv_at hl 0 rfl) ?_
  refine g_cW_aspects X hP zd_W_need_1 ?_
  refine lv_iload_n X.1 X.2.1 zd_W_need_4 rfl (lv_at hl 1 rfl) ?_
  refine z_callVi (As := [.int (nI n)]) (rest := []) (q0 := 2) (ci := 1) X hml (k_A_has l K G A hD σ (nI n)) (zk_W_73 X.2.2.2.1 (z_rm (by omega) (by decide))) rfl rfl rfl hP hS rfl hl.1 rfl (Nat.le_of_ble_eq_true rfl) zd_W_need_5 ⟨Nat.zero_le _, Nat.zero_le _⟩ (fun H locs hP hS => ?_)
  refine lv_if_eq (tgt := 22) X.1 X.2.1 zd_W_need_8 (by decide) (fun h9 => absurd h9 (by rw [cHas_y hn (by omega)]; decide)) (fun _ => ?_)
  refine lv_aload_n X.1 X.2.1 zd_W_need_11 rfl (lv_at hl 0 rfl) ?_
  refine g_cW_aspects X hP zd_W_need_12 ?_
  refine lv_iload_n X.1 X.2.1 zd_W_need_15 rfl (lv_at hl 2 rfl) ?_
  refine z_callVi (As := [.int (nI o)]) (rest := []) (q0 := 2) (ci := 1) X hml (k_A_has l K G A hD σ (nI o)) (zk_W_73 X.2.2.2.1 (z_rm (by omega) (by decide))) rfl rfl rfl hP hS rfl hl.1 rfl (Nat.le_of_ble_eq_true rfl) zd_W_need_16 ⟨Nat.zero_le _, Nat.zero_le _⟩ (fun H locs hP hS => ?_)
  refine lv_if_ne (tgt := 24) X.1 X.2.1 zd_W_need_19 (by decide) (fun _ => ?_) (fun h9 => absurd h9 (by rw [cHas_y ho (by omega)]; decide))
  refine lv_aload_n X.1 X.2.1 zd_W_need_24 rfl (lv_at hl 0 rfl) ?_
  refine g_cW_aspects X hP zd_W_need_25 ?_
  refine lv_iload_n X.1 X.2.1 zd_W_need_28 rfl (lv_at hl 1 rfl) ?_
  refine lv_iload_n X.1 X.2.1 zd_W_need_29 rfl (lv_at hl 2 rfl) ?_
  refine z_callVi (As := [.int (nI n), .int (nI o)]) (rest := []) (q0 := 2) (ci := 1) X hml (k_A_needsDirectly l K G A hD σ n o (by omega) (by omega) (hB.2.2.2.2.2.2.1 _) hB.2.2.2.2.2.1) (zk_W_74 X.2.2.2.1 (z_rm (by omega) (by decide))) rfl rfl rfl hP hS rfl hl.1 rfl (Nat.le_of_ble_eq_true rfl) zd_W_need_30 ⟨Nat.zero_le _, Nat.zero_le _⟩ (fun H locs hP hS => ?_)
  refine lv_if_ne (tgt := 48) X.1 X.2.1 zd_W_need_33 (by decide) (fun h9 => absurd (by rw [hd]; decide) h9) (fun _ => ?_)
  refine lv_aload_n X.1 X.2.1 zd_W_need_36 rfl (lv_at hl 0 rfl) ?_
  refine g_cW_aspects X hP zd_W_need_37 ?_
  refine lv_iload_n X.1 X.2.1 zd_W_need_40 rfl (lv_at hl 1 rfl) ?_
  refine z_callVi (As := [.int (nI n)]) (rest := []) (q0 := 2) (ci := 1) X hml (k_A_needCount l K G A hD σ n (by omega)) (zk_W_78 X.2.2.2.1 (z_rm (by omega) (by decide))) rfl rfl rfl hP hS rfl hl.1 rfl (Nat.le_of_ble_eq_true rfl) zd_W_need_41 ⟨Nat.zero_le _, Nat.zero_le _⟩ (fun H locs hP hS => ?_)
  refine lv_iconst (v := nI 3) X.1 X.2.1 zd_W_need_44 (by decide) ?_
  refine lv_icmp_lt (tgt := 50) X.1 X.2.1 zd_W_need_45 (by decide) (fun _ => ?_) (fun h9 => absurd (by rw [nI_ltI (by omega) (by omega)]; omega) h9)
  refine lv_aload_n X.1 X.2.1 zd_W_need_50 rfl (lv_at hl 0 rfl) ?_
  refine g_cW_aspects X hP zd_W_need_51 ?_
  refine lv_iload_n X.1 X.2.1 zd_W_need_54 rfl (lv_at hl 2 rfl) ?_
  refine lv_iload_n X.1 X.2.1 zd_W_need_55 rfl (lv_at hl 1 rfl) ?_
  refine z_callVi (As := [.int (nI o), .int (nI n)]) (rest := []) (q0 := 2) (ci := 1) X hml (k_A_leadsTo l K G A hD σ o n (by omega)) (zk_W_81 X.2.2.2.1 (z_rm (by omega) (by decide))) rfl rfl rfl hP hS rfl hl.1 rfl (Nat.le_of_ble_eq_true rfl) zd_W_need_56 ⟨Nat.zero_le _, Nat.zero_le _⟩ (fun H locs hP hS => ?_)
  refine lv_if_eq (tgt := 65) X.1 X.2.1 zd_W_need_59 (by decide) (fun _ => ?_) (fun h9 => absurd (by rw [hr0]; rfl) h9)
  refine lv_aload_n X.1 X.2.1 zd_W_need_65 rfl (lv_at hl 0 rfl) ?_
  refine g_cW_aspects X hP zd_W_need_66 ?_
  refine lv_iload_n X.1 X.2.1 zd_W_need_69 rfl (lv_at hl 1 rfl) ?_
  refine lv_iload_n X.1 X.2.1 zd_W_need_70 rfl (lv_at hl 2 rfl) ?_
  refine z_callVv (As := [.int (nI n), .int (nI o)]) (rest := []) (q0 := 2) (ci := 1) X hml (k_A_appendNeed l K G A hD σ n o (by omega) (by omega) hB.2.1 h3) (zk_W_84 X.2.2.2.1 (z_rm (by omega) (by decide))) rfl rfl rfl hP hS rfl hl.1 rfl (Nat.le_of_ble_eq_true rfl) zd_W_need_71 ⟨Nat.zero_le _, Nat.zero_le _⟩ (fun H locs hP hS => ?_)
  refine lv_aload_n X.1 X.2.1 zd_W_need_74 rfl (lv_at hl 0 rfl) ?_
  refine lv_iload_n X.1 X.2.1 zd_W_need_75 rfl (lv_at hl 1 rfl) ?_
  refine z_callVv (As := [.int (nI n)]) (rest := []) (q0 := 0) (ci := 3) X hml (k_W_forgetAllOf l K G A hD (cAppendNeed σ n o) n hB2) (zk_W_88 X.2.2.2.1 (z_rm (by omega) (by decide))) rfl rfl rfl hP hS rfl hl.1 rfl (Nat.le_of_ble_eq_true rfl) zd_W_need_76 ⟨Nat.zero_le _, Nat.zero_le _⟩ (fun H locs hP hS => ?_)
  refine lv_iconst (v := nI 1) X.1 X.2.1 zd_W_need_79 (by decide) ?_
  exact z_iret X.1 X.2.1 hr hlocks rfl rfl hP hS zd_W_need_80

set_option maxHeartbeats 4000000 in
set_option maxRecDepth 100000 in
/-- apply: none such -/
theorem k_W_apply_n (l : Launch) (K : zK) (G : Nat → Nat) (A : Nat → Prop) (hD : ∀ σ, va_D A (cW K G σ)) (σ : cS) (x y z : Int32) (h : ¬ ∃ t a k, t < cT_opened σ ∧ x = nI t ∧ a < cA_opened σ ∧ y = nI a ∧ k < 16 ∧ z = nI k) (hB : cB σ) : zMet l K A zy_W_apply zws_W_apply 2 [.ref (G 0), .int x, .int y, .int z] (cW K G σ) (cW K G σ) (some (.int (-1))) := by
  have hBo := hB.1
  have hBa := hB.2.1
  refine z_entry (by decide) (Nat.le_of_ble_eq_true rfl) ?_
  intro p e s m below meth c ls X hr hml hlocks hP hl
  have hS : va_S A s.heap s.heap [] := va_S.rf
  have hl : lv_has ls 4 [(0, .ref (G 0)), (1, .int x), (2, .int y), (3, .int z)] := hl
  refine lv_aload_n X.1 X.2.1 zd_W_apply_0 rfl (lv_at hl 0 rfl) ?_
  refine lv_iload_n X.1 X.2.1 zd_W_apply_1 rfl (lv_at hl 1 rfl) ?_
  refine lv_iload_n X.1 X.2.1 zd_W_apply_2 rfl (lv_at hl 2 rfl) ?_
  refine lv_iload_n X.1 X.2.1 zd_W_apply_3 rfl (lv_at hl 3 rfl) ?_
  refine z_callVi (As := [.int x, .int y, .int z]) (rest := []) (q0 := 0) (ci := 3) X hml (k_W_isAsked l K G A hD σ x y z) (zk_W_91 X.2.2.2.1 (z_rm (by omega) (by decide))) rfl rfl rfl hP hS rfl hl.1 rfl (Nat.le_of_ble_eq_true rfl) zd_W_apply_4 ⟨Nat.zero_le _, Nat.zero_le _⟩ (fun H locs hP hS => ?_)
  refine lv_if_ne (tgt := 12) X.1 X.2.1 zd_W_apply_7 (by decide) (fun h9 => absurd (by rw [cAsked_n hB.1 hB.2.1 h]; decide) h9) (fun _ => ?_)
  refine lv_iconst (v := -1) X.1 X.2.1 zd_W_apply_10 (by decide) ?_
  exact z_iret X.1 X.2.1 hr hlocks rfl rfl hP hS zd_W_apply_11

set_option maxHeartbeats 4000000 in
set_option maxRecDepth 100000 in
/-- apply -/
theorem k_W_apply_1 (l : Launch) (K : zK) (G : Nat → Nat) (A : Nat → Prop) (hD : ∀ σ, va_D A (cW K G σ)) (σ : cS) (t a k : Nat) (ht : t < cT_opened σ) (ha : a < cA_opened σ) (hk : k < 16) (hB : cB σ) : zMet l K A zy_W_apply zws_W_apply 65 [.ref (G 0), .int (nI t), .int (nI a), .int (nI k)] (cW K G σ) (cW K G (σ.1, σ.2.1, (cDo σ.1 σ.2.1 29 σ.2.2 (cT_ends σ t) a k).2)) (some (.int ((cDo σ.1 σ.2.1 29 σ.2.2 (cT_ends σ t) a k).1))) := by
  have hBo := hB.1
  have hBa := hB.2.1
  refine z_entry (by decide) (Nat.le_of_ble_eq_true rfl) ?_
  intro p e s m below meth c ls X hr hml hlocks hP hl
  have hS : va_S A s.heap s.heap [] := va_S.rf
  have hl : lv_has ls 4 [(0, .ref (G 0)), (1, .int (nI t)), (2, .int (nI a)), (3, .int (nI k))] := hl
  refine lv_aload_n X.1 X.2.1 zd_W_apply_0 rfl (lv_at hl 0 rfl) ?_
  refine lv_iload_n X.1 X.2.1 zd_W_apply_1 rfl (lv_at hl 1 rfl) ?_
  refine lv_iload_n X.1 X.2.1 zd_W_apply_2 rfl (lv_at hl 2 rfl) ?_
  refine lv_iload_n X.1 X.2.1 zd_W_apply_3 rfl (lv_at hl 3 rfl) ?_
  refine z_callVi (As := [.int (nI t), .int (nI a), .int (nI k)]) (rest := []) (q0 := 0) (ci := 3) X hml (k_W_isAsked l K G A hD σ (nI t) (nI a) (nI k)) (zk_W_91 X.2.2.2.1 (z_rm (by omega) (by decide))) rfl rfl rfl hP hS rfl hl.1 rfl (Nat.le_of_ble_eq_true rfl) zd_W_apply_4 ⟨Nat.zero_le _, Nat.zero_le _⟩ (fun H locs hP hS => ?_)
  refine lv_if_ne (tgt := 12) X.1 X.2.1 zd_W_apply_7 (by decide) (fun _ => ?_) (fun h9 => absurd h9 (by rw [cAsked_y ht hB.1 ha hB.2.1 hk]; decide))
  refine lv_aload_n X.1 X.2.1 zd_W_apply_12 rfl (lv_at hl 0 rfl) ?_
  refine lv_aload_n X.1 X.2.1 zd_W_apply_13 rfl (lv_at hl 0 rfl) ?_
  refine g_cW_targets X hP zd_W_apply_14 ?_
  refine lv_iload_n X.1 X.2.1 zd_W_apply_17 rfl (lv_at hl 1 rfl) ?_
  refine z_callVi (As := [.int (nI t)]) (rest := [.ref (G 0)]) (q0 := 1) (ci := 0) X hml (k_T_end l K G A hD σ t (by omega)) (zk_W_52 X.2.2.2.1 (z_rm (by omega) (by decide))) rfl rfl rfl hP hS rfl hl.1 rfl (Nat.le_of_ble_eq_true rfl) zd_W_apply_18 ⟨Nat.zero_le _, Nat.zero_le _⟩ (fun H locs hP hS => ?_)
  refine lv_iload_n X.1 X.2.1 zd_W_apply_21 rfl (lv_at hl 2 rfl) ?_
  refine lv_iload_n X.1 X.2.1 zd_W_apply_22 rfl (lv_at hl 3 rfl) ?_
  refine lv_iconst (v := nI 0) X.1 X.2.1 zd_W_apply_23 (by decide) ?_
  refine z_callVi (As := [.int (nI (cT_ends σ t)), .int (nI a), .int (nI k), .int (nI 0)]) (rest := []) (q0 := 0) (ci := 3) X hml (k_W_doing l K G A hD σ.1 σ.2.1 (fun μ => hB) 29 0 rfl σ.2.2 (cT_ends σ t) a k (hB.2.2.1 _) (by omega) (by omega)) (zk_W_94 X.2.2.2.1 (z_rm (by omega) (by decide))) rfl rfl rfl hP hS rfl hl.1 rfl (Nat.le_of_ble_eq_true rfl) zd_W_apply_24 ⟨Nat.zero_le _, Nat.zero_le _⟩ (fun H locs hP hS => ?_)
  exact z_iret X.1 X.2.1 hr hlocks rfl rfl hP hS zd_W_apply_27

set_option maxHeartbeats 4000000 in
set_option maxRecDepth 100000 in
/-- state: none such -/
theorem k_W_state_n (l : Launch) (K : zK) (G : Nat → Nat) (A : Nat → Prop) (hD : ∀ σ, va_D A (cW K G σ)) (σ : cS) (x y z : Int32) (h : ¬ ∃ t a k, t < cT_opened σ ∧ x = nI t ∧ a < cA_opened σ ∧ y = nI a ∧ k < 16 ∧ z = nI k) (hB : cB σ) : zMet l K A zy_W_state zws_W_state 2 [.ref (G 0), .int x, .int y, .int z] (cW K G σ) (cW K G σ) (some (.int (-1))) := by
  have hBo := hB.1
  have hBa := hB.2.1
  refine z_entry (by decide) (Nat.le_of_ble_eq_true rfl) ?_
  intro p e s m below meth c ls X hr hml hlocks hP hl
  have hS : va_S A s.heap s.heap [] := va_S.rf
  have hl : lv_has ls 4 [(0, .ref (G 0)), (1, .int x), (2, .int y), (3, .int z)] := hl
  refine lv_aload_n X.1 X.2.1 zd_W_state_0 rfl (lv_at hl 0 rfl) ?_
  refine lv_iload_n X.1 X.2.1 zd_W_state_1 rfl (lv_at hl 1 rfl) ?_
  refine lv_iload_n X.1 X.2.1 zd_W_state_2 rfl (lv_at hl 2 rfl) ?_
  refine lv_iload_n X.1 X.2.1 zd_W_state_3 rfl (lv_at hl 3 rfl) ?_
  refine z_callVi (As := [.int x, .int y, .int z]) (rest := []) (q0 := 0) (ci := 3) X hml (k_W_isAsked l K G A hD σ x y z) (zk_W_91 X.2.2.2.1 (z_rm (by omega) (by decide))) rfl rfl rfl hP hS rfl hl.1 rfl (Nat.le_of_ble_eq_true rfl) zd_W_state_4 ⟨Nat.zero_le _, Nat.zero_le _⟩ (fun H locs hP hS => ?_)
  refine lv_if_ne (tgt := 12) X.1 X.2.1 zd_W_state_7 (by decide) (fun h9 => absurd (by rw [cAsked_n hB.1 hB.2.1 h]; decide) h9) (fun _ => ?_)
  refine lv_iconst (v := -1) X.1 X.2.1 zd_W_state_10 (by decide) ?_
  exact z_iret X.1 X.2.1 hr hlocks rfl rfl hP hS zd_W_state_11

set_option maxHeartbeats 4000000 in
set_option maxRecDepth 100000 in
/-- state -/
theorem k_W_state_1 (l : Launch) (K : zK) (G : Nat → Nat) (A : Nat → Prop) (hD : ∀ σ, va_D A (cW K G σ)) (σ : cS) (t a k : Nat) (ht : t < cT_opened σ) (ha : a < cA_opened σ) (hk : k < 16) (hB : cB σ) : zMet l K A zy_W_state zws_W_state 2 [.ref (G 0), .int (nI t), .int (nI a), .int (nI k)] (cW K G σ) (cW K G σ) (some (.int (cKnown σ (cT_ends σ t) a k))) := by
  have hBo := hB.1
  have hBa := hB.2.1
  refine z_entry (by decide) (Nat.le_of_ble_eq_true rfl) ?_
  intro p e s m below meth c ls X hr hml hlocks hP hl
  have hS : va_S A s.heap s.heap [] := va_S.rf
  have hl : lv_has ls 4 [(0, .ref (G 0)), (1, .int (nI t)), (2, .int (nI a)), (3, .int (nI k))] := hl
  refine lv_aload_n X.1 X.2.1 zd_W_state_0 rfl (lv_at hl 0 rfl) ?_
  refine lv_iload_n X.1 X.2.1 zd_W_state_1 rfl (lv_at hl 1 rfl) ?_
  refine lv_iload_n X.1 X.2.1 zd_W_state_2 rfl (lv_at hl 2 rfl) ?_
  refine lv_iload_n X.1 X.2.1 zd_W_state_3 rfl (lv_at hl 3 rfl) ?_
  refine z_callVi (As := [.int (nI t), .int (nI a), .int (nI k)]) (rest := []) (q0 := 0) (ci := 3) X hml (k_W_isAsked l K G A hD σ (nI t) (nI a) (nI k)) (zk_W_91 X.2.2.2.1 (z_rm (by omega) (by decide))) rfl rfl rfl hP hS rfl hl.1 rfl (Nat.le_of_ble_eq_true rfl) zd_W_state_4 ⟨Nat.zero_le _, Nat.zero_le _⟩ (fun H locs hP hS => ?_)
  refine lv_if_ne (tgt := 12) X.1 X.2.1 zd_W_state_7 (by decide) (fun _ => ?_) (fun h9 => absurd h9 (by rw [cAsked_y ht hB.1 ha hB.2.1 hk]; decide))
  refine lv_aload_n X.1 X.2.1 zd_W_state_12 rfl (lv_at hl 0 rfl) ?_
  refine g_cW_memory X hP zd_W_state_13 ?_
  refine lv_aload_n X.1 X.2.1 zd_W_state_16 rfl (lv_at hl 0 rfl) ?_
  refine g_cW_targets X hP zd_W_state_17 ?_
  refine lv_iload_n X.1 X.2.1 zd_W_state_20 rfl (lv_at hl 1 rfl) ?_
  refine z_callVi (As := [.int (nI t)]) (rest := [.ref (G 3)]) (q0 := 1) (ci := 0) X hml (k_T_end l K G A hD σ t (by omega)) (zk_W_52 X.2.2.2.1 (z_rm (by omega) (by decide))) rfl rfl rfl hP hS rfl hl.1 rfl (Nat.le_of_ble_eq_true rfl) zd_W_state_21 ⟨Nat.zero_le _, Nat.zero_le _⟩ (fun H locs hP hS => ?_)
  refine lv_iload_n X.1 X.2.1 zd_W_state_24 rfl (lv_at hl 2 rfl) ?_
  refine lv_iload_n X.1 X.2.1 zd_W_state_25 rfl (lv_at hl 3 rfl) ?_
  refine z_callVi (As := [.int (nI (cT_ends σ t)), .int (nI a), .int (nI k)]) (rest := []) (q0 := 3) (ci := 2) X hml (k_M_known l K G A hD σ (cT_ends σ t) a k (hB.2.2.1 _) (by omega) (by omega)) (zk_W_98 X.2.2.2.1 (z_rm (by omega) (by decide))) rfl rfl rfl hP hS rfl hl.1 rfl (Nat.le_of_ble_eq_true rfl) zd_W_state_26 ⟨Nat.zero_le _, Nat.zero_le _⟩ (fun H locs hP hS => ?_)
  exact z_iret X.1 X.2.1 hr hlocks rfl rfl hP hS zd_W_state_29

set_option maxHeartbeats 4000000 in
set_option maxRecDepth 100000 in
/-- clash -/
theorem k_W_clash_1 (l : Launch) (K : zK) (G : Nat → Nat) (A : Nat → Prop) (hD : ∀ σ, va_D A (cW K G σ)) (σ : cS) (n : Nat) (hn : n < 5) (hB : cB σ) : zMet l K A zy_W_clash zws_W_clash 1 [.ref (G 0), .int (nI n)] (cW K G σ) (cW K G σ) (some (.int (cW_clash σ n))) := by
  have hBo := hB.1
  have hBa := hB.2.1
  refine z_entry (by decide) (Nat.le_of_ble_eq_true rfl) ?_
  intro p e s m below meth c ls X hr hml hlocks hP hl
  have hS : va_S A s.heap s.heap [] := va_S.rf
  have hl : lv_has ls 2 [(0, .ref (G 0)), (1, .int (nI n))] := hl
  refine lv_iload_n X.1 X.2.1 zd_W_clash_0 rfl (lv_at hl 1 rfl) ?_
  refine lv_if_lt (tgt := 18) X.1 X.2.1 zd_W_clash_1 (by decide) (fun h9 => absurd h9 (nI_pos (by omega))) (fun _ => ?_)
  refine lv_iload_n X.1 X.2.1 zd_W_clash_4 rfl (lv_at hl 1 rfl) ?_
  refine lv_iconst (v := nI 5) X.1 X.2.1 zd_W_clash_5 (by decide) ?_
  refine lv_icmp_ge (tgt := 18) X.1 X.2.1 zd_W_clash_6 (by decide) (fun h9 => absurd h9 (by rw [nI_leI (by omega) (by omega)]; omega)) (fun _ => ?_)
  refine lv_aload_n X.1 X.2.1 zd_W_clash_9 rfl (lv_at hl 0 rfl) ?_
  refine g_cW_latestClash X hP zd_W_clash_10 ?_
  refine lv_iload_n X.1 X.2.1 zd_W_clash_13 rfl (lv_at hl 1 rfl) ?_
  refine l_cW_clash X hP (by omega) zd_W_clash_14 ?_
  refine lv_goto (tgt := 19) X.1 X.2.1 zd_W_clash_15 (by decide) ?_
  exact z_iret X.1 X.2.1 hr hlocks rfl rfl hP hS zd_W_clash_19

set_option maxHeartbeats 4000000 in
set_option maxRecDepth 100000 in
/-- clash: none such -/
theorem k_W_clash_n (l : Launch) (K : zK) (G : Nat → Nat) (A : Nat → Prop) (hD : ∀ σ, va_D A (cW K G σ)) (σ : cS) (x : Int32) (h : ¬ ∃ n, n < 5 ∧ x = nI n) (hB : cB σ) : zMet l K A zy_W_clash zws_W_clash 1 [.ref (G 0), .int x] (cW K G σ) (cW K G σ) (some (.int (-1))) := by
  have hBo := hB.1
  have hBa := hB.2.1
  refine z_entry (by decide) (Nat.le_of_ble_eq_true rfl) ?_
  intro p e s m below meth c ls X hr hml hlocks hP hl
  have hS : va_S A s.heap s.heap [] := va_S.rf
  have hl : lv_has ls 2 [(0, .ref (G 0)), (1, .int x)] := hl
  refine lv_iload_n X.1 X.2.1 zd_W_clash_0 rfl (lv_at hl 1 rfl) ?_
  refine lv_if_lt (tgt := 18) X.1 X.2.1 zd_W_clash_1 (by decide) (fun c1 => ?_) (fun c1 => ?_)
  · refine lv_iconst (v := -1) X.1 X.2.1 zd_W_clash_18 (by decide) ?_
    exact z_iret X.1 X.2.1 hr hlocks rfl rfl hP hS zd_W_clash_19
  · refine lv_iload_n X.1 X.2.1 zd_W_clash_4 rfl (lv_at hl 1 rfl) ?_
    refine lv_iconst (v := nI 5) X.1 X.2.1 zd_W_clash_5 (by decide) ?_
    refine lv_icmp_ge (tgt := 18) X.1 X.2.1 zd_W_clash_6 (by decide) (fun c2 => ?_) (fun c2 => ?_)
    · refine lv_iconst (v := -1) X.1 X.2.1 zd_W_clash_18 (by decide) ?_
      exact z_iret X.1 X.2.1 hr hlocks rfl rfl hP hS zd_W_clash_19
    · exact absurd (z_rng c1 c2 (by decide)) h

set_option maxHeartbeats 4000000 in
set_option maxRecDepth 100000 in
/-- worked: none such -/
theorem k_W_worked_n (l : Launch) (K : zK) (G : Nat → Nat) (A : Nat → Prop) (hD : ∀ σ, va_D A (cW K G σ)) (σ : cS) (x y : Int32) (h : ¬ ∃ t a, t < cT_opened σ ∧ x = nI t ∧ a < cA_opened σ ∧ y = nI a) (hB : cB σ) : zMet l K A zy_W_worked zws_W_worked 1 [.ref (G 0), .int x, .int y] (cW K G σ) (cW K G σ) (some (.int (nI 0))) := by
  have hBo := hB.1
  have hBa := hB.2.1
  refine z_entry (by decide) (Nat.le_of_ble_eq_true rfl) ?_
  intro p e s m below meth c ls X hr hml hlocks hP hl
  have hS : va_S A s.heap s.heap [] := va_S.rf
  have hl : lv_has ls 3 [(0, .ref (G 0)), (1, .int x), (2, .int y)] := hl
  refine lv_aload_n X.1 X.2.1 zd_W_worked_0 rfl (lv_at hl 0 rfl) ?_
  refine g_cW_targets X hP zd_W_worked_1 ?_
  refine lv_iload_n X.1 X.2.1 zd_W_worked_4 rfl (lv_at hl 1 rfl) ?_
  refine z_callVi (As := [.int x]) (rest := []) (q0 := 1) (ci := 0) X hml (k_T_has l K G A hD σ x) (zk_W_44 X.2.2.2.1 (z_rm (by omega) (by decide))) rfl rfl rfl hP hS rfl hl.1 rfl (Nat.le_of_ble_eq_true rfl) zd_W_worked_5 ⟨Nat.zero_le _, Nat.zero_le _⟩ (fun H locs hP hS => ?_)
  refine lv_if_eq (tgt := 22) X.1 X.2.1 zd_W_worked_8 (by decide) (fun c1 => ?_) (fun c1 => ?_)
  · rw [z_eq0 (cHas_lt _ _)] at c1
    refine lv_iconst (v := nI 0) X.1 X.2.1 zd_W_worked_22 (by decide) ?_
    exact z_iret X.1 X.2.1 hr hlocks rfl rfl hP hS zd_W_worked_23
  · rw [z_eq0 (cHas_lt _ _)] at c1
    obtain ⟨t, ht, rfl⟩ := cHas_ex (by omega) c1
    refine lv_aload_n X.1 X.2.1 zd_W_worked_11 rfl (lv_at hl 0 rfl) ?_
    refine g_cW_aspects X hP zd_W_worked_12 ?_
    refine lv_iload_n X.1 X.2.1 zd_W_worked_15 rfl (lv_at hl 2 rfl) ?_
    refine z_callVi (As := [.int y]) (rest := []) (q0 := 2) (ci := 1) X hml (k_A_has l K G A hD σ y) (zk_W_73 X.2.2.2.1 (z_rm (by omega) (by decide))) rfl rfl rfl hP hS rfl hl.1 rfl (Nat.le_of_ble_eq_true rfl) zd_W_worked_16 ⟨Nat.zero_le _, Nat.zero_le _⟩ (fun H locs hP hS => ?_)
    refine lv_if_ne (tgt := 24) X.1 X.2.1 zd_W_worked_19 (by decide) (fun c2 => ?_) (fun c2 => ?_)
    · rw [z_eq0 (cHas_lt _ _)] at c2
      obtain ⟨a, ha, rfl⟩ := cHas_ex (by omega) c2
      exact absurd ⟨t, a, ht, rfl, ha, rfl⟩ h
    · rw [z_eq0 (cHas_lt _ _)] at c2
      refine lv_iconst (v := nI 0) X.1 X.2.1 zd_W_worked_22 (by decide) ?_
      exact z_iret X.1 X.2.1 hr hlocks rfl rfl hP hS zd_W_worked_23

set_option maxHeartbeats 4000000 in
set_option maxRecDepth 100000 in
/-- worked -/
theorem k_W_worked_1 (l : Launch) (K : zK) (G : Nat → Nat) (A : Nat → Prop) (hD : ∀ σ, va_D A (cW K G σ)) (σ : cS) (t a : Nat) (ht : t < cT_opened σ) (ha : a < cA_opened σ) (hB : cB σ) : zMet l K A zy_W_worked zws_W_worked 2 [.ref (G 0), .int (nI t), .int (nI a)] (cW K G σ) (cW K G σ) (some (.int (cM_doneTimes σ (cT_ends σ t * 8 + a)))) := by
  have hBo := hB.1
  have hBa := hB.2.1
  refine z_entry (by decide) (Nat.le_of_ble_eq_true rfl) ?_
  intro p e s m below meth c ls X hr hml hlocks hP hl
  have hS : va_S A s.heap s.heap [] := va_S.rf
  have hl : lv_has ls 3 [(0, .ref (G 0)), (1, .int (nI t)), (2, .int (nI a))] := hl
  refine lv_aload_n X.1 X.2.1 zd_W_worked_0 rfl (lv_at hl 0 rfl) ?_
  refine g_cW_targets X hP zd_W_worked_1 ?_
  refine lv_iload_n X.1 X.2.1 zd_W_worked_4 rfl (lv_at hl 1 rfl) ?_
  refine z_callVi (As := [.int (nI t)]) (rest := []) (q0 := 1) (ci := 0) X hml (k_T_has l K G A hD σ (nI t)) (zk_W_44 X.2.2.2.1 (z_rm (by omega) (by decide))) rfl rfl rfl hP hS rfl hl.1 rfl (Nat.le_of_ble_eq_true rfl) zd_W_worked_5 ⟨Nat.zero_le _, Nat.zero_le _⟩ (fun H locs hP hS => ?_)
  refine lv_if_eq (tgt := 22) X.1 X.2.1 zd_W_worked_8 (by decide) (fun h9 => absurd h9 (by rw [cHas_y ht (by omega)]; decide)) (fun _ => ?_)
  refine lv_aload_n X.1 X.2.1 zd_W_worked_11 rfl (lv_at hl 0 rfl) ?_
  refine g_cW_aspects X hP zd_W_worked_12 ?_
  refine lv_iload_n X.1 X.2.1 zd_W_worked_15 rfl (lv_at hl 2 rfl) ?_
  refine z_callVi (As := [.int (nI a)]) (rest := []) (q0 := 2) (ci := 1) X hml (k_A_has l K G A hD σ (nI a)) (zk_W_73 X.2.2.2.1 (z_rm (by omega) (by decide))) rfl rfl rfl hP hS rfl hl.1 rfl (Nat.le_of_ble_eq_true rfl) zd_W_worked_16 ⟨Nat.zero_le _, Nat.zero_le _⟩ (fun H locs hP hS => ?_)
  refine lv_if_ne (tgt := 24) X.1 X.2.1 zd_W_worked_19 (by decide) (fun _ => ?_) (fun h9 => absurd h9 (by rw [cHas_y ha (by omega)]; decide))
  refine lv_aload_n X.1 X.2.1 zd_W_worked_24 rfl (lv_at hl 0 rfl) ?_
  refine g_cW_memory X hP zd_W_worked_25 ?_
  refine lv_aload_n X.1 X.2.1 zd_W_worked_28 rfl (lv_at hl 0 rfl) ?_
  refine g_cW_targets X hP zd_W_worked_29 ?_
  refine lv_iload_n X.1 X.2.1 zd_W_worked_32 rfl (lv_at hl 1 rfl) ?_
  refine z_callVi (As := [.int (nI t)]) (rest := [.ref (G 3)]) (q0 := 1) (ci := 0) X hml (k_T_end l K G A hD σ t (by omega)) (zk_W_52 X.2.2.2.1 (z_rm (by omega) (by decide))) rfl rfl rfl hP hS rfl hl.1 rfl (Nat.le_of_ble_eq_true rfl) zd_W_worked_33 ⟨Nat.zero_le _, Nat.zero_le _⟩ (fun H locs hP hS => ?_)
  refine lv_iload_n X.1 X.2.1 zd_W_worked_36 rfl (lv_at hl 2 rfl) ?_
  refine z_callVi (As := [.int (nI (cT_ends σ t)), .int (nI a)]) (rest := []) (q0 := 3) (ci := 2) X hml (k_M_timesDone l K G A hD σ (cT_ends σ t) a (hB.2.2.1 _) (by omega)) (zk_W_118 X.2.2.2.1 (z_rm (by omega) (by decide))) rfl rfl rfl hP hS rfl hl.1 rfl (Nat.le_of_ble_eq_true rfl) zd_W_worked_37 ⟨Nat.zero_le _, Nat.zero_le _⟩ (fun H locs hP hS => ?_)
  exact z_iret X.1 X.2.1 hr hlocks rfl rfl hP hS zd_W_worked_40

set_option maxHeartbeats 4000000 in
set_option maxRecDepth 100000 in
/-- done -/
theorem k_W_done (l : Launch) (K : zK) (G : Nat → Nat) (A : Nat → Prop) (hD : ∀ σ, va_D A (cW K G σ)) (σ : cS)  (hB : cB σ) : zMet l K A zy_W_done zws_W_done 1 [.ref (G 0)] (cW K G σ) (cW K G σ) (some (.int (cM_nowDone σ))) := by
  have hBo := hB.1
  have hBa := hB.2.1
  refine z_entry (by decide) (Nat.le_of_ble_eq_true rfl) ?_
  intro p e s m below meth c ls X hr hml hlocks hP hl
  have hS : va_S A s.heap s.heap [] := va_S.rf
  have hl : lv_has ls 1 [(0, .ref (G 0))] := hl
  refine lv_aload_n X.1 X.2.1 zd_W_done_0 rfl (lv_at hl 0 rfl) ?_
  refine g_cW_memory X hP zd_W_done_1 ?_
  refine z_callVi (As := []) (rest := []) (q0 := 3) (ci := 2) X hml (k_M_doneCount l K G A hD σ ) (zk_W_122 X.2.2.2.1 (z_rm (by omega) (by decide))) rfl rfl rfl hP hS rfl hl.1 rfl (Nat.le_of_ble_eq_true rfl) zd_W_done_4 ⟨Nat.zero_le _, Nat.zero_le _⟩ (fun H locs hP hS => ?_)
  exact z_iret X.1 X.2.1 hr hlocks rfl rfl hP hS zd_W_done_7

set_option maxHeartbeats 4000000 in
set_option maxRecDepth 100000 in
/-- maker -/
theorem k_W_maker_1 (l : Launch) (K : zK) (G : Nat → Nat) (A : Nat → Prop) (hD : ∀ σ, va_D A (cW K G σ)) (σ : cS) (t q : Nat) (ht : t < cT_opened σ) (hq : q < 10) (hB : cB σ) : zMet l K A zy_W_maker zws_W_maker 1 [.ref (G 0), .int (nI t), .int (nI q)] (cW K G σ) (cW K G σ) (some (.int (cM_makers σ (cT_ends σ t * 10 + q)))) := by
  have hBo := hB.1
  have hBa := hB.2.1
  refine z_entry (by decide) (Nat.le_of_ble_eq_true rfl) ?_
  intro p e s m below meth c ls X hr hml hlocks hP hl
  have hS : va_S A s.heap s.heap [] := va_S.rf
  have hl : lv_has ls 3 [(0, .ref (G 0)), (1, .int (nI t)), (2, .int (nI q))] := hl
  refine lv_aload_n X.1 X.2.1 zd_W_maker_0 rfl (lv_at hl 0 rfl) ?_
  refine g_cW_targets X hP zd_W_maker_1 ?_
  refine lv_iload_n X.1 X.2.1 zd_W_maker_4 rfl (lv_at hl 1 rfl) ?_
  refine z_callVi (As := [.int (nI t)]) (rest := []) (q0 := 1) (ci := 0) X hml (k_T_has l K G A hD σ (nI t)) (zk_W_44 X.2.2.2.1 (z_rm (by omega) (by decide))) rfl rfl rfl hP hS rfl hl.1 rfl (Nat.le_of_ble_eq_true rfl) zd_W_maker_5 ⟨Nat.zero_le _, Nat.zero_le _⟩ (fun H locs hP hS => ?_)
  refine lv_if_eq (tgt := 21) X.1 X.2.1 zd_W_maker_8 (by decide) (fun h9 => absurd h9 (by rw [cHas_y ht (by omega)]; decide)) (fun _ => ?_)
  refine lv_iload_n X.1 X.2.1 zd_W_maker_11 rfl (lv_at hl 2 rfl) ?_
  refine lv_if_lt (tgt := 21) X.1 X.2.1 zd_W_maker_12 (by decide) (fun h9 => absurd h9 (nI_pos (by omega))) (fun _ => ?_)
  refine lv_iload_n X.1 X.2.1 zd_W_maker_15 rfl (lv_at hl 2 rfl) ?_
  refine lv_bipush (v := nI 10) X.1 X.2.1 zd_W_maker_16 (by decide) ?_
  refine lv_icmp_lt (tgt := 23) X.1 X.2.1 zd_W_maker_18 (by decide) (fun _ => ?_) (fun h9 => absurd (by rw [nI_ltI (by omega) (by omega)]; omega) h9)
  refine lv_aload_n X.1 X.2.1 zd_W_maker_23 rfl (lv_at hl 0 rfl) ?_
  refine g_cW_memory X hP zd_W_maker_24 ?_
  refine lv_aload_n X.1 X.2.1 zd_W_maker_27 rfl (lv_at hl 0 rfl) ?_
  refine g_cW_targets X hP zd_W_maker_28 ?_
  refine lv_iload_n X.1 X.2.1 zd_W_maker_31 rfl (lv_at hl 1 rfl) ?_
  refine z_callVi (As := [.int (nI t)]) (rest := [.ref (G 3)]) (q0 := 1) (ci := 0) X hml (k_T_end l K G A hD σ t (by omega)) (zk_W_52 X.2.2.2.1 (z_rm (by omega) (by decide))) rfl rfl rfl hP hS rfl hl.1 rfl (Nat.le_of_ble_eq_true rfl) zd_W_maker_32 ⟨Nat.zero_le _, Nat.zero_le _⟩ (fun H locs hP hS => ?_)
  refine lv_iload_n X.1 X.2.1 zd_W_maker_35 rfl (lv_at hl 2 rfl) ?_
  refine z_callVi (As := [.int (nI (cT_ends σ t)), .int (nI q)]) (rest := []) (q0 := 3) (ci := 2) X hml (k_M_makerOf l K G A hD σ (cT_ends σ t) q (hB.2.2.1 _) (by omega)) (zk_W_126 X.2.2.2.1 (z_rm (by omega) (by decide))) rfl rfl rfl hP hS rfl hl.1 rfl (Nat.le_of_ble_eq_true rfl) zd_W_maker_36 ⟨Nat.zero_le _, Nat.zero_le _⟩ (fun H locs hP hS => ?_)
  exact z_iret X.1 X.2.1 hr hlocks rfl rfl hP hS zd_W_maker_39

set_option maxHeartbeats 4000000 in
set_option maxRecDepth 100000 in
/-- maker: none such -/
theorem k_W_maker_n (l : Launch) (K : zK) (G : Nat → Nat) (A : Nat → Prop) (hD : ∀ σ, va_D A (cW K G σ)) (σ : cS) (x y : Int32) (h : ¬ ∃ t q, t < cT_opened σ ∧ x = nI t ∧ q < 10 ∧ y = nI q) (hB : cB σ) : zMet l K A zy_W_maker zws_W_maker 1 [.ref (G 0), .int x, .int y] (cW K G σ) (cW K G σ) (some (.int (-1))) := by
  have hBo := hB.1
  have hBa := hB.2.1
  refine z_entry (by decide) (Nat.le_of_ble_eq_true rfl) ?_
  intro p e s m below meth c ls X hr hml hlocks hP hl
  have hS : va_S A s.heap s.heap [] := va_S.rf
  have hl : lv_has ls 3 [(0, .ref (G 0)), (1, .int x), (2, .int y)] := hl
  refine lv_aload_n X.1 X.2.1 zd_W_maker_0 rfl (lv_at hl 0 rfl) ?_
  refine g_cW_targets X hP zd_W_maker_1 ?_
  refine lv_iload_n X.1 X.2.1 zd_W_maker_4 rfl (lv_at hl 1 rfl) ?_
  refine z_callVi (As := [.int x]) (rest := []) (q0 := 1) (ci := 0) X hml (k_T_has l K G A hD σ x) (zk_W_44 X.2.2.2.1 (z_rm (by omega) (by decide))) rfl rfl rfl hP hS rfl hl.1 rfl (Nat.le_of_ble_eq_true rfl) zd_W_maker_5 ⟨Nat.zero_le _, Nat.zero_le _⟩ (fun H locs hP hS => ?_)
  refine lv_if_eq (tgt := 21) X.1 X.2.1 zd_W_maker_8 (by decide) (fun c1 => ?_) (fun c1 => ?_)
  · rw [z_eq0 (cHas_lt _ _)] at c1
    refine lv_iconst (v := -1) X.1 X.2.1 zd_W_maker_21 (by decide) ?_
    exact z_iret X.1 X.2.1 hr hlocks rfl rfl hP hS zd_W_maker_22
  · rw [z_eq0 (cHas_lt _ _)] at c1
    obtain ⟨t, ht, rfl⟩ := cHas_ex (by omega) c1
    refine lv_iload_n X.1 X.2.1 zd_W_maker_11 rfl (lv_at hl 2 rfl) ?_
    refine lv_if_lt (tgt := 21) X.1 X.2.1 zd_W_maker_12 (by decide) (fun c2 => ?_) (fun c2 => ?_)
    · refine lv_iconst (v := -1) X.1 X.2.1 zd_W_maker_21 (by decide) ?_
      exact z_iret X.1 X.2.1 hr hlocks rfl rfl hP hS zd_W_maker_22
    · refine lv_iload_n X.1 X.2.1 zd_W_maker_15 rfl (lv_at hl 2 rfl) ?_
      refine lv_bipush (v := nI 10) X.1 X.2.1 zd_W_maker_16 (by decide) ?_
      refine lv_icmp_lt (tgt := 23) X.1 X.2.1 zd_W_maker_18 (by decide) (fun c3 => ?_) (fun c3 => ?_)
      · exact absurd (by obtain ⟨q, hq, e⟩ := z_rng c2 (show ¬ nI 10 ≤ y from Int32.not_le.mpr c3) (by decide); exact ⟨t, q, ht, rfl, hq, e⟩) h
      · refine lv_iconst (v := -1) X.1 X.2.1 zd_W_maker_21 (by decide) ?_
        exact z_iret X.1 X.2.1 hr hlocks rfl rfl hP hS zd_W_maker_22

