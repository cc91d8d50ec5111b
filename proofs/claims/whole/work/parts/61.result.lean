/-! result (by program: wip/gen/result.py) -/

set_option maxHeartbeats 4000000 in
set_option maxRecDepth 100000 in
theorem q_T_has (l : Launch) (K : zK) (G : Nat → Nat) (A : Nat → Prop) (hD : True) (σ : cS) (x : Int32) : zMet l K A zy_T_has zws_T_has 0 [.ref (G 1), .int x] (cW K G σ) (cW K G σ) (some (.int (nI (cHas (cT_opened σ) x)))) := by
  refine z_entry (by decide) (Nat.le_of_ble_eq_true rfl) ?_
  intro p e s m below meth c ls X hr hml hlocks hP hl
  have hS : va_S A s.heap s.heap [] := va_S.rf
  have hl : lv_has ls 2 [(0, .ref (G 1)), (1, .int x)] := hl
  refine lv_iload_n X.1 X.2.1 zd_T_has_0 rfl (lv_at hl 1 rfl) ?_
  refine lv_if_lt (tgt := 16) X.1 X.2.1 zd_T_has_1 (by decide) (fun c1 => ?_) (fun c1 => ?_)
  · refine lv_iconst (v := nI 0) X.1 X.2.1 zd_T_has_16 (by decide) ?_
    exact z_zret X.1 X.2.1 hr hlocks (Or.inl rfl) (by simp [cHas, *]) rfl hP hS zd_T_has_17
  · refine lv_iload_n X.1 X.2.1 zd_T_has_4 rfl (lv_at hl 1 rfl) ?_
    refine lv_aload_n X.1 X.2.1 zd_T_has_5 rfl (lv_at hl 0 rfl) ?_
    refine g_cT_opened X hP zd_T_has_6 ?_
    refine lv_icmp_ge (tgt := 16) X.1 X.2.1 zd_T_has_9 (by decide) (fun c2 => ?_) (fun c2 => ?_)
    · refine lv_iconst (v := nI 0) X.1 X.2.1 zd_T_has_16 (by decide) ?_
      exact z_zret X.1 X.2.1 hr hlocks (Or.inl rfl) (by simp [cHas, *]) rfl hP hS zd_T_has_17
    · refine lv_iconst (v := nI 1) X.1 X.2.1 zd_T_has_12 (by decide) ?_
      refine lv_goto (tgt := 17) X.1 X.2.1 zd_T_has_13 (by decide) ?_
      exact z_zret X.1 X.2.1 hr hlocks (Or.inr rfl) (by simp [cHas, *]) rfl hP hS zd_T_has_17

set_option maxHeartbeats 4000000 in
set_option maxRecDepth 100000 in
theorem q_A_has (l : Launch) (K : zK) (G : Nat → Nat) (A : Nat → Prop) (hD : True) (σ : cS) (x : Int32) : zMet l K A zy_A_has zws_A_has 0 [.ref (G 2), .int x] (cW K G σ) (cW K G σ) (some (.int (nI (cHas (cA_opened σ) x)))) := by
  refine z_entry (by decide) (Nat.le_of_ble_eq_true rfl) ?_
  intro p e s m below meth c ls X hr hml hlocks hP hl
  have hS : va_S A s.heap s.heap [] := va_S.rf
  have hl : lv_has ls 2 [(0, .ref (G 2)), (1, .int x)] := hl
  refine lv_iload_n X.1 X.2.1 zd_A_has_0 rfl (lv_at hl 1 rfl) ?_
  refine lv_if_lt (tgt := 16) X.1 X.2.1 zd_A_has_1 (by decide) (fun c1 => ?_) (fun c1 => ?_)
  · refine lv_iconst (v := nI 0) X.1 X.2.1 zd_A_has_16 (by decide) ?_
    exact z_zret X.1 X.2.1 hr hlocks (Or.inl rfl) (by simp [cHas, *]) rfl hP hS zd_A_has_17
  · refine lv_iload_n X.1 X.2.1 zd_A_has_4 rfl (lv_at hl 1 rfl) ?_
    refine lv_aload_n X.1 X.2.1 zd_A_has_5 rfl (lv_at hl 0 rfl) ?_
    refine g_cA_opened X hP zd_A_has_6 ?_
    refine lv_icmp_ge (tgt := 16) X.1 X.2.1 zd_A_has_9 (by decide) (fun c2 => ?_) (fun c2 => ?_)
    · refine lv_iconst (v := nI 0) X.1 X.2.1 zd_A_has_16 (by decide) ?_
      exact z_zret X.1 X.2.1 hr hlocks (Or.inl rfl) (by simp [cHas, *]) rfl hP hS zd_A_has_17
    · refine lv_iconst (v := nI 1) X.1 X.2.1 zd_A_has_12 (by decide) ?_
      refine lv_goto (tgt := 17) X.1 X.2.1 zd_A_has_13 (by decide) ?_
      exact z_zret X.1 X.2.1 hr hlocks (Or.inr rfl) (by simp [cHas, *]) rfl hP hS zd_A_has_17

set_option maxHeartbeats 4000000 in
set_option maxRecDepth 100000 in
theorem q_T_end (l : Launch) (K : zK) (G : Nat → Nat) (A : Nat → Prop) (hD : True) (σ : cS) (n : Nat) (hn : n < 20) : zMet l K A zy_T_end zws_T_end 0 [.ref (G 1), .int (nI n)] (cW K G σ) (cW K G σ) (some (.int (nI (cT_ends σ n)))) := by
  refine z_entry (by decide) (Nat.le_of_ble_eq_true rfl) ?_
  intro p e s m below meth c ls X hr hml hlocks hP hl
  have hS : va_S A s.heap s.heap [] := va_S.rf
  have hl : lv_has ls 2 [(0, .ref (G 1)), (1, .int (nI n))] := hl
  refine lv_aload_n X.1 X.2.1 zd_T_end_0 rfl (lv_at hl 0 rfl) ?_
  refine g_cT_ends X hP zd_T_end_1 ?_
  refine lv_iload_n X.1 X.2.1 zd_T_end_4 rfl (lv_at hl 1 rfl) ?_
  refine l_cT_ends X hP (by omega) zd_T_end_5 ?_
  exact z_iret X.1 X.2.1 hr hlocks rfl rfl hP hS zd_T_end_6

set_option maxHeartbeats 4000000 in
set_option maxRecDepth 100000 in
theorem q_M_pair (l : Launch) (K : zK) (G : Nat → Nat) (A : Nat → Prop) (hD : True) (σ : cS) (t a : Nat) : zMet l K A zy_M_pair zws_M_pair 0 [.int (nI t), .int (nI a)] (cW K G σ) (cW K G σ) (some (.int (nI (t * 8 + a)))) := by
  refine z_entry (by decide) (Nat.le_of_ble_eq_true rfl) ?_
  intro p e s m below meth c ls X hr hml hlocks hP hl
  have hS : va_S A s.heap s.heap [] := va_S.rf
  have hl : lv_has ls 2 [(0, .int (nI t)), (1, .int (nI a))] := hl
  refine lv_iload_n X.1 X.2.1 zd_M_pair_0 rfl (lv_at hl 0 rfl) ?_
  refine lv_bipush (v := nI 8) X.1 X.2.1 zd_M_pair_1 (by decide) ?_
  refine lv_imul X.1 X.2.1 zd_M_pair_3 ?_
  refine z_top (pk_mul _ _) ?_
  refine lv_iload_n X.1 X.2.1 zd_M_pair_4 rfl (lv_at hl 1 rfl) ?_
  refine lv_iadd X.1 X.2.1 zd_M_pair_5 ?_
  refine z_top (nI_add _ _) ?_
  exact z_iret X.1 X.2.1 hr hlocks rfl rfl hP hS zd_M_pair_6

set_option maxHeartbeats 4000000 in
set_option maxRecDepth 100000 in
theorem q_M_known (l : Launch) (K : zK) (G : Nat → Nat) (A : Nat → Prop) (hD : True) (σ : cS) (t a k : Nat) (ht : t < 20) (ha : a < 8) (hk : k < 16) : zMet l K A zy_M_known zws_M_known 1 [.ref (G 3), .int (nI t), .int (nI a), .int (nI k)] (cW K G σ) (cW K G σ) (some (.int (cKnown σ t a k))) := by
  refine z_entry (by decide) (Nat.le_of_ble_eq_true rfl) ?_
  intro p e s m below meth c ls X hr hml hlocks hP hl
  have hS : va_S A s.heap s.heap [] := va_S.rf
  have hl : lv_has ls 5 [(0, .ref (G 3)), (1, .int (nI t)), (2, .int (nI a)), (3, .int (nI k))] := hl
  refine lv_iload_n X.1 X.2.1 zd_M_known_0 rfl (lv_at hl 1 rfl) ?_
  refine lv_iload_n X.1 X.2.1 zd_M_known_1 rfl (lv_at hl 2 rfl) ?_
  refine z_callSi (As := [.int (nI t), .int (nI a)]) (rest := []) X hml (q_M_pair l K G A hD σ t a) (zk_M_37 X.2.2.2.1 (z_rm (by omega) (by decide))) hP hS rfl hl.1 rfl (Nat.le_of_ble_eq_true rfl) zd_M_known_2 ⟨Nat.zero_le _, Nat.zero_le _⟩ (fun H locs hP hS => ?_)
  refine lv_istore (lv' := [(4, .int (nI (t * 8 + a))), (0, .ref (G 3)), (1, .int (nI t)), (2, .int (nI a)), (3, .int (nI k))]) X.1 X.2.1 zd_M_known_5 hl (by decide) rfl (fun ls hl => ?_)
  refine lv_aload_n X.1 X.2.1 zd_M_known_7 rfl (lv_at hl 1 rfl) ?_
  refine g_cM_doneSettings X hP zd_M_known_8 ?_
  refine lv_iload X.1 X.2.1 zd_M_known_11 (lv_at hl 0 rfl) ?_
  refine l_cM_doneSettings X hP (by omega) zd_M_known_13 ?_
  refine lv_iload_n X.1 X.2.1 zd_M_known_14 rfl (lv_at hl 4 rfl) ?_
  refine lv_ishr X.1 X.2.1 zd_M_known_15 ?_
  refine lv_iconst (v := nI 1) X.1 X.2.1 zd_M_known_16 (by decide) ?_
  refine lv_iand X.1 X.2.1 zd_M_known_17 ?_
  refine lv_if_eq (tgt := 23) X.1 X.2.1 zd_M_known_18 (by decide) (fun c1 => ?_) (fun c1 => ?_)
  · refine lv_aload_n X.1 X.2.1 zd_M_known_23 rfl (lv_at hl 1 rfl) ?_
    refine g_cM_passedSettings X hP zd_M_known_24 ?_
    refine lv_iload X.1 X.2.1 zd_M_known_27 (lv_at hl 0 rfl) ?_
    refine l_cM_passedSettings X hP (by omega) zd_M_known_29 ?_
    refine lv_iload_n X.1 X.2.1 zd_M_known_30 rfl (lv_at hl 4 rfl) ?_
    refine lv_ishr X.1 X.2.1 zd_M_known_31 ?_
    refine lv_iconst (v := nI 1) X.1 X.2.1 zd_M_known_32 (by decide) ?_
    refine lv_iand X.1 X.2.1 zd_M_known_33 ?_
    refine lv_if_eq (tgt := 41) X.1 X.2.1 zd_M_known_34 (by decide) (fun c2 => ?_) (fun c2 => ?_)
    · refine lv_iconst (v := -1) X.1 X.2.1 zd_M_known_41 (by decide) ?_
      exact z_iret X.1 X.2.1 hr hlocks (by simp [cKnown, *]) rfl hP hS zd_M_known_42
    · refine lv_iconst (v := nI 0) X.1 X.2.1 zd_M_known_37 (by decide) ?_
      refine lv_goto (tgt := 42) X.1 X.2.1 zd_M_known_38 (by decide) ?_
      exact z_iret X.1 X.2.1 hr hlocks (by simp [cKnown, *]) rfl hP hS zd_M_known_42
  · refine lv_iconst (v := nI 1) X.1 X.2.1 zd_M_known_21 (by decide) ?_
    exact z_iret X.1 X.2.1 hr hlocks (by simp [cKnown, *]) rfl hP hS zd_M_known_22

set_option maxHeartbeats 4000000 in
set_option maxRecDepth 100000 in
theorem q_M_resultOf (l : Launch) (K : zK) (G : Nat → Nat) (A : Nat → Prop) (hD : True) (σ : cS) (t a k : Nat) (ht : t < 20) (ha : a < 8) (hk : k < 16) : zMet l K A zy_M_resultOf zws_M_resultOf 1 [.ref (G 3), .int (nI t), .int (nI a), .int (nI k)] (cW K G σ) (cW K G σ) (some (.long (cM_results σ ((t * 8 + a) * 16 + k)))) := by
  refine z_entry (by decide) (Nat.le_of_ble_eq_true rfl) ?_
  intro p e s m below meth c ls X hr hml hlocks hP hl
  have hS : va_S A s.heap s.heap [] := va_S.rf
  have hl : lv_has ls 4 [(0, .ref (G 3)), (1, .int (nI t)), (2, .int (nI a)), (3, .int (nI k))] := hl
  refine lv_aload_n X.1 X.2.1 zd_M_resultOf_0 rfl (lv_at hl 0 rfl) ?_
  refine g_cM_results X hP zd_M_resultOf_1 ?_
  refine lv_iload_n X.1 X.2.1 zd_M_resultOf_4 rfl (lv_at hl 1 rfl) ?_
  refine lv_iload_n X.1 X.2.1 zd_M_resultOf_5 rfl (lv_at hl 2 rfl) ?_
  refine z_callSi (As := [.int (nI t), .int (nI a)]) (rest := [.ref (G 22)]) X hml (q_M_pair l K G A hD σ t a) (zk_M_37 X.2.2.2.1 (z_rm (by omega) (by decide))) hP hS rfl hl.1 rfl (Nat.le_of_ble_eq_true rfl) zd_M_resultOf_6 ⟨Nat.zero_le _, Nat.zero_le _⟩ (fun H locs hP hS => ?_)
  refine lv_bipush (v := nI 16) X.1 X.2.1 zd_M_resultOf_9 (by decide) ?_
  refine lv_imul X.1 X.2.1 zd_M_resultOf_11 ?_
  refine z_top (pk_mul _ _) ?_
  refine lv_iload_n X.1 X.2.1 zd_M_resultOf_12 rfl (lv_at hl 3 rfl) ?_
  refine lv_iadd X.1 X.2.1 zd_M_resultOf_13 ?_
  refine z_top (nI_add _ _) ?_
  refine l_cM_results X hP (by omega) zd_M_resultOf_14 ?_
  exact z_lret X.1 X.2.1 hr hlocks rfl rfl hP hS zd_M_resultOf_15

set_option maxHeartbeats 4000000 in
set_option maxRecDepth 100000 in
theorem q_W_isAsked (l : Launch) (K : zK) (G : Nat → Nat) (A : Nat → Prop) (hD : True) (σ : cS) (x y z : Int32) : zMet l K A zy_W_isAsked zws_W_isAsked 1 [.ref (G 0), .int x, .int y, .int z] (cW K G σ) (cW K G σ) (some (.int (nI (cAsked σ x y z)))) := by
  refine z_entry (by decide) (Nat.le_of_ble_eq_true rfl) ?_
  intro p e s m below meth c ls X hr hml hlocks hP hl
  have hS : va_S A s.heap s.heap [] := va_S.rf
  have hl : lv_has ls 4 [(0, .ref (G 0)), (1, .int x), (2, .int y), (3, .int z)] := hl
  refine lv_aload_n X.1 X.2.1 zd_W_isAsked_0 rfl (lv_at hl 0 rfl) ?_
  refine g_cW_targets X hP zd_W_isAsked_1 ?_
  refine lv_iload_n X.1 X.2.1 zd_W_isAsked_4 rfl (lv_at hl 1 rfl) ?_
  refine z_callVi (As := [.int x]) (rest := []) (q0 := 1) (ci := 0) X hml (q_T_has l K G A hD σ x) (zk_W_44 X.2.2.2.1 (z_rm (by omega) (by decide))) rfl rfl rfl hP hS rfl hl.1 rfl (Nat.le_of_ble_eq_true rfl) zd_W_isAsked_5 ⟨Nat.zero_le _, Nat.zero_le _⟩ (fun H locs hP hS => ?_)
  refine lv_if_eq (tgt := 36) X.1 X.2.1 zd_W_isAsked_8 (by decide) (fun c1 => ?_) (fun c1 => ?_)
  · rw [z_eq0 (cHas_lt _ _)] at c1
    refine lv_iconst (v := nI 0) X.1 X.2.1 zd_W_isAsked_36 (by decide) ?_
    exact z_zret X.1 X.2.1 hr hlocks (Or.inl rfl) (by simp [cAsked, *]) rfl hP hS zd_W_isAsked_37
  · rw [z_eq0 (cHas_lt _ _)] at c1
    refine lv_aload_n X.1 X.2.1 zd_W_isAsked_11 rfl (lv_at hl 0 rfl) ?_
    refine g_cW_aspects X hP zd_W_isAsked_12 ?_
    refine lv_iload_n X.1 X.2.1 zd_W_isAsked_15 rfl (lv_at hl 2 rfl) ?_
    refine z_callVi (As := [.int y]) (rest := []) (q0 := 2) (ci := 1) X hml (q_A_has l K G A hD σ y) (zk_W_73 X.2.2.2.1 (z_rm (by omega) (by decide))) rfl rfl rfl hP hS rfl hl.1 rfl (Nat.le_of_ble_eq_true rfl) zd_W_isAsked_16 ⟨Nat.zero_le _, Nat.zero_le _⟩ (fun H locs hP hS => ?_)
    refine lv_if_eq (tgt := 36) X.1 X.2.1 zd_W_isAsked_19 (by decide) (fun c2 => ?_) (fun c2 => ?_)
    · rw [z_eq0 (cHas_lt _ _)] at c2
      refine lv_iconst (v := nI 0) X.1 X.2.1 zd_W_isAsked_36 (by decide) ?_
      exact z_zret X.1 X.2.1 hr hlocks (Or.inl rfl) (by simp [cAsked, *]) rfl hP hS zd_W_isAsked_37
    · rw [z_eq0 (cHas_lt _ _)] at c2
      refine lv_iload_n X.1 X.2.1 zd_W_isAsked_22 rfl (lv_at hl 3 rfl) ?_
      refine lv_if_lt (tgt := 36) X.1 X.2.1 zd_W_isAsked_23 (by decide) (fun c3 => ?_) (fun c3 => ?_)
      · refine lv_iconst (v := nI 0) X.1 X.2.1 zd_W_isAsked_36 (by decide) ?_
        exact z_zret X.1 X.2.1 hr hlocks (Or.inl rfl) (by simp [cAsked, *]) rfl hP hS zd_W_isAsked_37
      · refine lv_iload_n X.1 X.2.1 zd_W_isAsked_26 rfl (lv_at hl 3 rfl) ?_
        refine lv_bipush (v := nI 16) X.1 X.2.1 zd_W_isAsked_27 (by decide) ?_
        refine lv_icmp_ge (tgt := 36) X.1 X.2.1 zd_W_isAsked_29 (by decide) (fun c4 => ?_) (fun c4 => ?_)
        · refine lv_iconst (v := nI 0) X.1 X.2.1 zd_W_isAsked_36 (by decide) ?_
          exact z_zret X.1 X.2.1 hr hlocks (Or.inl rfl) (by simp [cAsked, *]) rfl hP hS zd_W_isAsked_37
        · refine lv_iconst (v := nI 1) X.1 X.2.1 zd_W_isAsked_32 (by decide) ?_
          refine lv_goto (tgt := 37) X.1 X.2.1 zd_W_isAsked_33 (by decide) ?_
          exact z_zret X.1 X.2.1 hr hlocks (Or.inr rfl) (by simp [cAsked, *]) rfl hP hS zd_W_isAsked_37

set_option maxHeartbeats 4000000 in
set_option maxRecDepth 100000 in
theorem t_W_result_n (l : Launch) (hlt : l.stackTraces = false) (K : zK) (G : Nat → Nat) (σ : cS) (x y z : Int32) (h : ¬ ∃ t a k, t < cT_opened σ ∧ x = nI t ∧ a < cA_opened σ ∧ y = nI a ∧ k < 16 ∧ z = nI k) (hB : cB σ) : zMetT l K zy_W_result zws_W_result 6 [.ref (G 0), .int x, .int y, .int z] (cW K G σ) zXA := by
  refine z_entryT (by decide) (Nat.le_of_ble_eq_true rfl) ?_
  intro p e s m below meth c ls X hml hlocks hex hP hth hl
  have hS : va_S (fun _ => False) s.heap s.heap [] := va_S.rf
  have hl : lv_has ls 5 [(0, .ref (G 0)), (1, .int x), (2, .int y), (3, .int z)] := hl
  refine lv_aload_n X.1 X.2.1 zd_W_result_0 rfl (lv_at hl 0 rfl) ?_
  refine lv_iload_n X.1 X.2.1 zd_W_result_1 rfl (lv_at hl 1 rfl) ?_
  refine lv_iload_n X.1 X.2.1 zd_W_result_2 rfl (lv_at hl 2 rfl) ?_
  refine lv_iload_n X.1 X.2.1 zd_W_result_3 rfl (lv_at hl 3 rfl) ?_
  refine z_callVi (As := [.int x, .int y, .int z]) (rest := []) (q0 := 0) (ci := 3) X hml (q_W_isAsked l K G (fun _ => False) trivial σ x y z) (zk_W_91 X.2.2.2.1 ⟨by simp only [zrm, zrX]; omega, by simp only [zrm, zrX]; omega⟩) rfl rfl rfl hP hS rfl hl.1 rfl (Nat.le_of_ble_eq_true rfl) zd_W_result_4 ⟨Nat.zero_le _, Nat.zero_le _⟩ (fun H locs hP hS => ?_)
  refine lv_if_ne (tgt := 20) X.1 X.2.1 zd_W_result_7 (by decide) (fun h9 => absurd (by rw [cAsked_n hB.1 hB.2.1 h]; decide) h9) (fun _ => ?_)
  obtain ⟨sa, hsa⟩ := hth.2.2.2.2.2.1
  exact z_throw (ik := 102) (is := 104) (ic := 106) X hlt hth (Or.inl rfl) (by decide +kernel) zat_A (zin 435 (by decide +kernel) rfl) (zin 42 (by decide +kernel) rfl) hsa hlocks hex (hl.1.trans hml.symm) (by decide) hS zd_W_result_10 zd_W_result_13 zd_W_result_14 zd_W_result_16 zd_W_result_19

set_option maxHeartbeats 4000000 in
set_option maxRecDepth 100000 in
theorem t_W_result_2 (l : Launch) (hlt : l.stackTraces = false) (K : zK) (G : Nat → Nat) (σ : cS) (t a k : Nat) (ht : t < cT_opened σ) (ha : a < cA_opened σ) (hk : k < 16) (hB : cB σ) (hkn : ¬ cKnown σ (cT_ends σ t) a k = nI 1) : zMetT l K zy_W_result zws_W_result 6 [.ref (G 0), .int (nI t), .int (nI a), .int (nI k)] (cW K G σ) zXS := by
  have hBo := hB.1
  have hBa := hB.2.1
  refine z_entryT (by decide) (Nat.le_of_ble_eq_true rfl) ?_
  intro p e s m below meth c ls X hml hlocks hex hP hth hl
  have hS : va_S (fun _ => False) s.heap s.heap [] := va_S.rf
  have hl : lv_has ls 5 [(0, .ref (G 0)), (1, .int (nI t)), (2, .int (nI a)), (3, .int (nI k))] := hl
  refine lv_aload_n X.1 X.2.1 zd_W_result_0 rfl (lv_at hl 0 rfl) ?_
  refine lv_iload_n X.1 X.2.1 zd_W_result_1 rfl (lv_at hl 1 rfl) ?_
  refine lv_iload_n X.1 X.2.1 zd_W_result_2 rfl (lv_at hl 2 rfl) ?_
  refine lv_iload_n X.1 X.2.1 zd_W_result_3 rfl (lv_at hl 3 rfl) ?_
  refine z_callVi (As := [.int (nI t), .int (nI a), .int (nI k)]) (rest := []) (q0 := 0) (ci := 3) X hml (q_W_isAsked l K G (fun _ => False) trivial σ (nI t) (nI a) (nI k)) (zk_W_91 X.2.2.2.1 ⟨by simp only [zrm, zrX]; omega, by simp only [zrm, zrX]; omega⟩) rfl rfl rfl hP hS rfl hl.1 rfl (Nat.le_of_ble_eq_true rfl) zd_W_result_4 ⟨Nat.zero_le _, Nat.zero_le _⟩ (fun H locs hP hS => ?_)
  refine lv_if_ne (tgt := 20) X.1 X.2.1 zd_W_result_7 (by decide) (fun _ => ?_) (fun h9 => absurd h9 (by rw [cAsked_y ht hB.1 ha hB.2.1 hk]; decide))
  refine lv_aload_n X.1 X.2.1 zd_W_result_20 rfl (lv_at hl 0 rfl) ?_
  refine g_cW_targets X hP zd_W_result_21 ?_
  refine lv_iload_n X.1 X.2.1 zd_W_result_24 rfl (lv_at hl 1 rfl) ?_
  refine z_callVi (As := [.int (nI t)]) (rest := []) (q0 := 1) (ci := 0) X hml (q_T_end l K G (fun _ => False) trivial σ t (by omega)) (zk_W_52 X.2.2.2.1 ⟨by simp only [zrm, zrX]; omega, by simp only [zrm, zrX]; omega⟩) rfl rfl rfl hP hS rfl hl.1 rfl (Nat.le_of_ble_eq_true rfl) zd_W_result_25 ⟨Nat.zero_le _, Nat.zero_le _⟩ (fun H locs hP hS => ?_)
  refine lv_istore (lv' := [(4, .int (nI (cT_ends σ t))), (0, .ref (G 0)), (1, .int (nI t)), (2, .int (nI a)), (3, .int (nI k))]) X.1 X.2.1 zd_W_result_28 hl (by decide) rfl (fun ls hl => ?_)
  refine lv_aload_n X.1 X.2.1 zd_W_result_30 rfl (lv_at hl 1 rfl) ?_
  refine g_cW_memory X hP zd_W_result_31 ?_
  refine lv_iload X.1 X.2.1 zd_W_result_34 (lv_at hl 0 rfl) ?_
  refine lv_iload_n X.1 X.2.1 zd_W_result_36 rfl (lv_at hl 3 rfl) ?_
  refine lv_iload_n X.1 X.2.1 zd_W_result_37 rfl (lv_at hl 4 rfl) ?_
  refine z_callVi (As := [.int (nI (cT_ends σ t)), .int (nI a), .int (nI k)]) (rest := []) (q0 := 3) (ci := 2) X hml (q_M_known l K G (fun _ => False) trivial σ (cT_ends σ t) a k (hB.2.2.1 _) (by omega) (by omega)) (zk_W_98 X.2.2.2.1 ⟨by simp only [zrm, zrX]; omega, by simp only [zrm, zrX]; omega⟩) rfl rfl rfl hP hS rfl hl.1 rfl (Nat.le_of_ble_eq_true rfl) zd_W_result_38 ⟨Nat.zero_le _, Nat.zero_le _⟩ (fun H locs hP hS => ?_)
  refine lv_iconst (v := nI 1) X.1 X.2.1 zd_W_result_41 (by decide) ?_
  refine lv_icmp_eq (tgt := 55) X.1 X.2.1 zd_W_result_42 (by decide) (fun h9 => absurd h9 hkn) (fun _ => ?_)
  obtain ⟨sa, hsa⟩ := hth.2.2.2.2.2.2.1
  exact z_throw (ik := 109) (is := 111) (ic := 113) X hlt hth (Or.inr rfl) (by decide +kernel) zat_S (zin 502 (by decide +kernel) rfl) (zin 43 (by decide +kernel) rfl) hsa hlocks hex (hl.1.trans hml.symm) (by decide) hS zd_W_result_45 zd_W_result_48 zd_W_result_49 zd_W_result_51 zd_W_result_54

set_option maxHeartbeats 4000000 in
set_option maxRecDepth 100000 in
theorem q_W_result (l : Launch) (K : zK) (G : Nat → Nat) (A : Nat → Prop) (hD : True) (σ : cS) (t a k : Nat) (ht : t < cT_opened σ) (ha : a < cA_opened σ) (hk : k < 16) (hB : cB σ) (hkn : cKnown σ (cT_ends σ t) a k = nI 1) : zMet l K A zy_W_result zws_W_result 2 [.ref (G 0), .int (nI t), .int (nI a), .int (nI k)] (cW K G σ) (cW K G σ) (some (.long (cM_results σ ((cT_ends σ t * 8 + a) * 16 + k)))) := by
  have hBo := hB.1
  have hBa := hB.2.1
  refine z_entry (by decide) (Nat.le_of_ble_eq_true rfl) ?_
  intro p e s m below meth c ls X hr hml hlocks hP hl
  have hS : va_S A s.heap s.heap [] := va_S.rf
  have hl : lv_has ls 5 [(0, .ref (G 0)), (1, .int (nI t)), (2, .int (nI a)), (3, .int (nI k))] := hl
  refine lv_aload_n X.1 X.2.1 zd_W_result_0 rfl (lv_at hl 0 rfl) ?_
  refine lv_iload_n X.1 X.2.1 zd_W_result_1 rfl (lv_at hl 1 rfl) ?_
  refine lv_iload_n X.1 X.2.1 zd_W_result_2 rfl (lv_at hl 2 rfl) ?_
  refine lv_iload_n X.1 X.2.1 zd_W_result_3 rfl (lv_at hl 3 rfl) ?_
  refine z_callVi (As := [.int (nI t), .int (nI a), .int (nI k)]) (rest := []) (q0 := 0) (ci := 3) X hml (q_W_isAsked l K G A hD σ (nI t) (nI a) (nI k)) (zk_W_91 X.2.2.2.1 (z_rm (by omega) (by decide))) rfl rfl rfl hP hS rfl hl.1 rfl (Nat.le_of_ble_eq_true rfl) zd_W_result_4 ⟨Nat.zero_le _, Nat.zero_le _⟩ (fun H locs hP hS => ?_)
  refine lv_if_ne (tgt := 20) X.1 X.2.1 zd_W_result_7 (by decide) (fun _ => ?_) (fun h9 => absurd h9 (by rw [cAsked_y ht hB.1 ha hB.2.1 hk]; decide))
  refine lv_aload_n X.1 X.2.1 zd_W_result_20 rfl (lv_at hl 0 rfl) ?_
  refine g_cW_targets X hP zd_W_result_21 ?_
  refine lv_iload_n X.1 X.2.1 zd_W_result_24 rfl (lv_at hl 1 rfl) ?_
  refine z_callVi (As := [.int (nI t)]) (rest := []) (q0 := 1) (ci := 0) X hml (q_T_end l K G A hD σ t (by omega)) (zk_W_52 X.2.2.2.1 (z_rm (by omega) (by decide))) rfl rfl rfl hP hS rfl hl.1 rfl (Nat.le_of_ble_eq_true rfl) zd_W_result_25 ⟨Nat.zero_le _, Nat.zero_le _⟩ (fun H locs hP hS => ?_)
  refine lv_istore (lv' := [(4, .int (nI (cT_ends σ t))), (0, .ref (G 0)), (1, .int (nI t)), (2, .int (nI a)), (3, .int (nI k))]) X.1 X.2.1 zd_W_result_28 hl (by decide) rfl (fun ls hl => ?_)
  refine lv_aload_n X.1 X.2.1 zd_W_result_30 rfl (lv_at hl 1 rfl) ?_
  refine g_cW_memory X hP zd_W_result_31 ?_
  refine lv_iload X.1 X.2.1 zd_W_result_34 (lv_at hl 0 rfl) ?_
  refine lv_iload_n X.1 X.2.1 zd_W_result_36 rfl (lv_at hl 3 rfl) ?_
  refine lv_iload_n X.1 X.2.1 zd_W_result_37 rfl (lv_at hl 4 rfl) ?_
  refine z_callVi (As := [.int (nI (cT_ends σ t)), .int (nI a), .int (nI k)]) (rest := []) (q0 := 3) (ci := 2) X hml (q_M_known l K G A hD σ (cT_ends σ t) a k (hB.2.2.1 _) (by omega) (by omega)) (zk_W_98 X.2.2.2.1 (z_rm (by omega) (by decide))) rfl rfl rfl hP hS rfl hl.1 rfl (Nat.le_of_ble_eq_true rfl) zd_W_result_38 ⟨Nat.zero_le _, Nat.zero_le _⟩ (fun H locs hP hS => ?_)
  refine lv_iconst (v := nI 1) X.1 X.2.1 zd_W_result_41 (by decide) ?_
  refine lv_icmp_eq (tgt := 55) X.1 X.2.1 zd_W_result_42 (by decide) (fun _ => ?_) (fun h9 => absurd hkn h9)
  refine lv_aload_n X.1 X.2.1 zd_W_result_55 rfl (lv_at hl 1 rfl) ?_
  refine g_cW_memory X hP zd_W_result_56 ?_
  refine lv_iload X.1 X.2.1 zd_W_result_59 (lv_at hl 0 rfl) ?_
  refine lv_iload_n X.1 X.2.1 zd_W_result_61 rfl (lv_at hl 3 rfl) ?_
  refine lv_iload_n X.1 X.2.1 zd_W_result_62 rfl (lv_at hl 4 rfl) ?_
  refine z_callVl (As := [.int (nI (cT_ends σ t)), .int (nI a), .int (nI k)]) (rest := []) (q0 := 3) (ci := 2) X hml (q_M_resultOf l K G A hD σ (cT_ends σ t) a k (hB.2.2.1 _) (by omega) (by omega)) (zk_W_114 X.2.2.2.1 (z_rm (by omega) (by decide))) rfl rfl rfl hP hS rfl hl.1 rfl (Nat.le_of_ble_eq_true rfl) zd_W_result_63 ⟨Nat.zero_le _, Nat.zero_le _⟩ (fun H locs hP hS => ?_)
  exact z_lret X.1 X.2.1 hr hlocks rfl rfl hP hS zd_W_result_66
