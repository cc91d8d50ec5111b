/-! contracts of makeOutput, forgetFrom, forgetAllOf (by program: wip/gen/wforget.py) -/
def cClash (σ : cS) (t a k q : Nat) : cS := p_cW_clash σ (upd (upd (upd (upd (upd (cW_clash σ) 0 (nI t)) 1 (nI a)) 2 (nI k)) 3 (cM_makers σ (t * 10 + q))) 4 (nI (cM_makerSettings σ (t * 10 + q))))
def cMake (σ : cS) (t a k : Nat) : Nat × cS := if cA_names σ a = -1 then (1, σ) else if cM_makers σ (t * 10 + (cA_names σ a).toNatClampNeg) = -1 then (1, cKeepMaker σ t (cA_names σ a).toNatClampNeg a k) else (0, cClash σ t a k (cA_names σ a).toNatClampNeg)
theorem cMake_lt (σ : cS) (t a k : Nat) : (cMake σ t a k).1 < 2 ^ 31 := by unfold cMake; split <;> (try split) <;> (dsimp only; decide)
def cFFi (σ : cS) (u : Nat) : Nat → cS
  | 0 => σ
  | a + 1 => cForget (cFFi σ u a) u a (cA_names (cFFi σ u a) a)
def cFF (σ : cS) (n : Nat) : Nat → cS
  | 0 => σ
  | u + 1 => if cLead (cT_reached (cFF σ n u) u) n = 0 then cFF σ n u else cFFi (cFF σ n u) u (cA_opened σ)
def cFAi (σ : cS) (a : Nat) : Nat → cS
  | 0 => σ
  | u + 1 => cForget (cFAi σ a u) u a (cA_names (cFAi σ a u) a)
def cFA (σ : cS) (n : Nat) : Nat → cS
  | 0 => σ
  | a + 1 => if cLead (cA_reached (cFA σ n a) a) n = 0 then cFA σ n a else cFAi (cFA σ n a) a (cT_opened σ)
/-- Targets and Aspects stay -/
def cSame (τ σ : cS) : Prop := τ.1 = σ.1 ∧ τ.2.1 = σ.2.1
theorem cSame.tr {a b c : cS} (h1 : cSame a b) (h2 : cSame b c) : cSame a c := ⟨h1.1.trans h2.1, h1.2.trans h2.2⟩
theorem cForget_same (σ : cS) (t a : Nat) (nm : Int32) : cSame (cForget σ t a nm) σ := by
  unfold cForget cForgetQ
  split
  · exact ⟨rfl, rfl⟩
  · split
    · exact ⟨rfl, rfl⟩
    · exact ⟨rfl, rfl⟩
theorem cFFi_same (σ : cS) (u i : Nat) : cSame (cFFi σ u i) σ := by
  induction i with
  | zero => exact ⟨rfl, rfl⟩
  | succ i ih => exact (cForget_same _ _ _ _).tr ih
theorem cFF_same (σ : cS) (n u : Nat) : cSame (cFF σ n u) σ := by
  induction u with
  | zero => exact ⟨rfl, rfl⟩
  | succ u ih =>
    unfold cFF
    split
    · exact ih
    · exact (cFFi_same _ _ _).tr ih
theorem cFAi_same (σ : cS) (a i : Nat) : cSame (cFAi σ a i) σ := by
  induction i with
  | zero => exact ⟨rfl, rfl⟩
  | succ i ih => exact (cForget_same _ _ _ _).tr ih
theorem cFA_same (σ : cS) (n u : Nat) : cSame (cFA σ n u) σ := by
  induction u with
  | zero => exact ⟨rfl, rfl⟩
  | succ u ih =>
    unfold cFA
    split
    · exact ih
    · exact (cFAi_same _ _ _).tr ih
theorem cSame.oT {τ σ : cS} (h : cSame τ σ) : cT_opened τ = cT_opened σ := by unfold cT_opened; rw [h.1]
theorem cSame.oA {τ σ : cS} (h : cSame τ σ) : cA_opened τ = cA_opened σ := by unfold cA_opened; rw [h.2]
theorem cSame.nm {τ σ : cS} (h : cSame τ σ) : cA_names τ = cA_names σ := by unfold cA_names; rw [h.2]

set_option maxHeartbeats 4000000 in
set_option maxRecDepth 100000 in
/-- makeOutput: no name -/
theorem k_W_makeOutput_n (l : Launch) (K : zK) (G : Nat → Nat) (A : Nat → Prop) (hD : ∀ σ, va_D A (cW K G σ)) (σ : cS) (t a k : Nat) (ht : t < 20) (ha : a < 8) (hk : k < 16) (hq : cA_names σ a = -1) : zMet l K A zy_W_makeOutput zws_W_makeOutput 1 [.ref (G 0), .int (nI t), .int (nI a), .int (nI k)] (cW K G σ) (cW K G ((cMake σ t a k).2)) (some (.int (nI ((cMake σ t a k).1)))) := by
  refine z_entry (by decide) (Nat.le_of_ble_eq_true rfl) ?_
  intro p e s m below meth c ls X hr hml hlocks hP hl
  have hS : va_S A s.heap s.heap [] := va_S.rf
  have hl : lv_has ls 6 [(0, .ref (G 0)), (1, .int (nI t)), (2, .int (nI a)), (3, .int (nI k))] := hl
  refine lv_aload_n X.1 X.2.1 zd_W_makeOutput_0 rfl (lv_at hl 0 rfl) ?_
  refine g_cW_aspects X hP zd_W_makeOutput_1 ?_
  refine lv_iload_n X.1 X.2.1 zd_W_makeOutput_4 rfl (lv_at hl 2 rfl) ?_
  refine z_callVi (As := [.int (nI a)]) (rest := []) (q0 := 2) (ci := 1) X hml (k_A_nameOf l K G A hD σ a (by omega)) (zk_W_176 X.2.2.2.1 (z_rm (by omega) (by decide))) rfl rfl rfl hP hS rfl hl.1 rfl (Nat.le_of_ble_eq_true rfl) zd_W_makeOutput_5 ⟨Nat.zero_le _, Nat.zero_le _⟩ (fun H locs hP hS => ?_)
  refine lv_istore (lv' := [(4, .int (cA_names σ a)), (0, .ref (G 0)), (1, .int (nI t)), (2, .int (nI a)), (3, .int (nI k))]) X.1 X.2.1 zd_W_makeOutput_8 hl (by decide) rfl (fun ls hl => ?_)
  refine lv_iload X.1 X.2.1 zd_W_makeOutput_10 (lv_at hl 0 rfl) ?_
  refine lv_iconst (v := -1) X.1 X.2.1 zd_W_makeOutput_12 (by decide) ?_
  refine lv_icmp_ne (tgt := 18) X.1 X.2.1 zd_W_makeOutput_13 (by decide) (fun h9 => absurd hq h9) (fun _ => ?_)
  refine lv_iconst (v := nI 1) X.1 X.2.1 zd_W_makeOutput_16 (by decide) ?_
  exact z_zret X.1 X.2.1 hr hlocks (Or.inr rfl) (by rw [cMake, if_pos hq]) (by rw [cMake, if_pos hq]) hP hS zd_W_makeOutput_17

set_option maxHeartbeats 4000000 in
set_option maxRecDepth 100000 in
/-- makeOutput: m -/
theorem k_W_makeOutput_m (l : Launch) (K : zK) (G : Nat → Nat) (A : Nat → Prop) (hD : ∀ σ, va_D A (cW K G σ)) (σ : cS) (t a k : Nat) (ht : t < 20) (ha : a < 8) (hk : k < 16) (q : Nat) (hq10 : q < 10) (hq : cA_names σ a = nI q) (hm : cM_makers σ (t * 10 + q) = -1) : zMet l K A zy_W_makeOutput zws_W_makeOutput 1 [.ref (G 0), .int (nI t), .int (nI a), .int (nI k)] (cW K G σ) (cW K G ((cMake σ t a k).2)) (some (.int (nI ((cMake σ t a k).1)))) := by
  have hne : ¬ nI q = -1 := by intro h; have := congrArg Int32.toInt h; rw [nI_toInt (by omega)] at this; simp at this
  refine z_entry (by decide) (Nat.le_of_ble_eq_true rfl) ?_
  intro p e s m below meth c ls X hr hml hlocks hP hl
  have hS : va_S A s.heap s.heap [] := va_S.rf
  have hl : lv_has ls 6 [(0, .ref (G 0)), (1, .int (nI t)), (2, .int (nI a)), (3, .int (nI k))] := hl
  refine lv_aload_n X.1 X.2.1 zd_W_makeOutput_0 rfl (lv_at hl 0 rfl) ?_
  refine g_cW_aspects X hP zd_W_makeOutput_1 ?_
  refine lv_iload_n X.1 X.2.1 zd_W_makeOutput_4 rfl (lv_at hl 2 rfl) ?_
  refine z_callVi (As := [.int (nI a)]) (rest := []) (q0 := 2) (ci := 1) X hml (k_A_nameOf l K G A hD σ a (by omega)) (zk_W_176 X.2.2.2.1 (z_rm (by omega) (by decide))) rfl rfl rfl hP hS rfl hl.1 rfl (Nat.le_of_ble_eq_true rfl) zd_W_makeOutput_5 ⟨Nat.zero_le _, Nat.zero_le _⟩ (fun H locs hP hS => ?_)
  refine z_top hq ?_
  refine lv_istore (lv' := [(4, .int (nI q)), (0, .ref (G 0)), (1, .int (nI t)), (2, .int (nI a)), (3, .int (nI k))]) X.1 X.2.1 zd_W_makeOutput_8 hl (by decide) rfl (fun ls hl => ?_)
  refine lv_iload X.1 X.2.1 zd_W_makeOutput_10 (lv_at hl 0 rfl) ?_
  refine lv_iconst (v := -1) X.1 X.2.1 zd_W_makeOutput_12 (by decide) ?_
  refine lv_icmp_ne (tgt := 18) X.1 X.2.1 zd_W_makeOutput_13 (by decide) (fun _ => ?_) (fun h9 => absurd h9 hne)
  refine lv_aload_n X.1 X.2.1 zd_W_makeOutput_18 rfl (lv_at hl 1 rfl) ?_
  refine g_cW_memory X hP zd_W_makeOutput_19 ?_
  refine lv_iload_n X.1 X.2.1 zd_W_makeOutput_22 rfl (lv_at hl 2 rfl) ?_
  refine lv_iload X.1 X.2.1 zd_W_makeOutput_23 (lv_at hl 0 rfl) ?_
  refine z_callVi (As := [.int (nI t), .int (nI q)]) (rest := []) (q0 := 3) (ci := 2) X hml (k_M_makerOf l K G A hD σ t q (by omega) (by omega)) (zk_W_126 X.2.2.2.1 (z_rm (by omega) (by decide))) rfl rfl rfl hP hS rfl hl.1 rfl (Nat.le_of_ble_eq_true rfl) zd_W_makeOutput_25 ⟨Nat.zero_le _, Nat.zero_le _⟩ (fun H locs hP hS => ?_)
  refine lv_istore (lv' := [(5, .int (cM_makers σ (t * 10 + q))), (4, .int (nI q)), (0, .ref (G 0)), (1, .int (nI t)), (2, .int (nI a)), (3, .int (nI k))]) X.1 X.2.1 zd_W_makeOutput_28 hl (by decide) rfl (fun ls hl => ?_)
  refine lv_iload X.1 X.2.1 zd_W_makeOutput_30 (lv_at hl 0 rfl) ?_
  refine lv_iconst (v := -1) X.1 X.2.1 zd_W_makeOutput_32 (by decide) ?_
  refine lv_icmp_ne (tgt := 50) X.1 X.2.1 zd_W_makeOutput_33 (by decide) (fun h9 => absurd hm h9) (fun _ => ?_)
  refine lv_aload_n X.1 X.2.1 zd_W_makeOutput_36 rfl (lv_at hl 2 rfl) ?_
  refine g_cW_memory X hP zd_W_makeOutput_37 ?_
  refine lv_iload_n X.1 X.2.1 zd_W_makeOutput_40 rfl (lv_at hl 3 rfl) ?_
  refine lv_iload X.1 X.2.1 zd_W_makeOutput_41 (lv_at hl 1 rfl) ?_
  refine lv_iload_n X.1 X.2.1 zd_W_makeOutput_43 rfl (lv_at hl 4 rfl) ?_
  refine lv_iload_n X.1 X.2.1 zd_W_makeOutput_44 rfl (lv_at hl 5 rfl) ?_
  refine z_callVv (As := [.int (nI t), .int (nI q), .int (nI a), .int (nI k)]) (rest := []) (q0 := 3) (ci := 2) X hml (k_M_keepMaker l K G A hD σ t q a k (by omega) (by omega)) (zk_W_179 X.2.2.2.1 (z_rm (by omega) (by decide))) rfl rfl rfl hP hS rfl hl.1 rfl (Nat.le_of_ble_eq_true rfl) zd_W_makeOutput_45 ⟨Nat.zero_le _, Nat.zero_le _⟩ (fun H locs hP hS => ?_)
  refine lv_iconst (v := nI 1) X.1 X.2.1 zd_W_makeOutput_48 (by decide) ?_
  exact z_zret X.1 X.2.1 hr hlocks (Or.inr rfl) (by simp [cMake, hq, hne, nI_clamp (show q < 2 ^ 31 by omega), hm]) (by simp [cMake, hq, hne, nI_clamp (show q < 2 ^ 31 by omega), hm]; try rfl) hP hS zd_W_makeOutput_49

set_option maxHeartbeats 4000000 in
set_option maxRecDepth 100000 in
/-- makeOutput: c -/
theorem k_W_makeOutput_c (l : Launch) (K : zK) (G : Nat → Nat) (A : Nat → Prop) (hD : ∀ σ, va_D A (cW K G σ)) (σ : cS) (t a k : Nat) (ht : t < 20) (ha : a < 8) (hk : k < 16) (q : Nat) (hq10 : q < 10) (hq : cA_names σ a = nI q) (hm : ¬ cM_makers σ (t * 10 + q) = -1) : zMet l K A zy_W_makeOutput zws_W_makeOutput 1 [.ref (G 0), .int (nI t), .int (nI a), .int (nI k)] (cW K G σ) (cW K G ((cMake σ t a k).2)) (some (.int (nI ((cMake σ t a k).1)))) := by
  have hne : ¬ nI q = -1 := by intro h; have := congrArg Int32.toInt h; rw [nI_toInt (by omega)] at this; simp at this
  refine z_entry (by decide) (Nat.le_of_ble_eq_true rfl) ?_
  intro p e s m below meth c ls X hr hml hlocks hP hl
  have hS : va_S A s.heap s.heap [] := va_S.rf
  have hl : lv_has ls 6 [(0, .ref (G 0)), (1, .int (nI t)), (2, .int (nI a)), (3, .int (nI k))] := hl
  refine lv_aload_n X.1 X.2.1 zd_W_makeOutput_0 rfl (lv_at hl 0 rfl) ?_
  refine g_cW_aspects X hP zd_W_makeOutput_1 ?_
  refine lv_iload_n X.1 X.2.1 zd_W_makeOutput_4 rfl (lv_at hl 2 rfl) ?_
  refine z_callVi (As := [.int (nI a)]) (rest := []) (q0 := 2) (ci := 1) X hml (k_A_nameOf l K G A hD σ a (by omega)) (zk_W_176 X.2.2.2.1 (z_rm (by omega) (by decide))) rfl rfl rfl hP hS rfl hl.1 rfl (Nat.le_of_ble_eq_true rfl) zd_W_makeOutput_5 ⟨Nat.zero_le _, Nat.zero_le _⟩ (fun H locs hP hS => ?_)
  refine z_top hq ?_
  refine lv_istore (lv' := [(4, .int (nI q)), (0, .ref (G 0)), (1, .int (nI t)), (2, .int (nI a)), (3, .int (nI k))]) X.1 X.2.1 zd_W_makeOutput_8 hl (by decide) rfl (fun ls hl => ?_)
  refine lv_iload X.1 X.2.1 zd_W_makeOutput_10 (lv_at hl 0 rfl) ?_
  refine lv_iconst (v := -1) X.1 X.2.1 zd_W_makeOutput_12 (by decide) ?_
  refine lv_icmp_ne (tgt := 18) X.1 X.2.1 zd_W_makeOutput_13 (by decide) (fun _ => ?_) (fun h9 => absurd h9 hne)
  refine lv_aload_n X.1 X.2.1 zd_W_makeOutput_18 rfl (lv_at hl 1 rfl) ?_
  refine g_cW_memory X hP zd_W_makeOutput_19 ?_
  refine lv_iload_n X.1 X.2.1 zd_W_makeOutput_22 rfl (lv_at hl 2 rfl) ?_
  refine lv_iload X.1 X.2.1 zd_W_makeOutput_23 (lv_at hl 0 rfl) ?_
  refine z_callVi (As := [.int (nI t), .int (nI q)]) (rest := []) (q0 := 3) (ci := 2) X hml (k_M_makerOf l K G A hD σ t q (by omega) (by omega)) (zk_W_126 X.2.2.2.1 (z_rm (by omega) (by decide))) rfl rfl rfl hP hS rfl hl.1 rfl (Nat.le_of_ble_eq_true rfl) zd_W_makeOutput_25 ⟨Nat.zero_le _, Nat.zero_le _⟩ (fun H locs hP hS => ?_)
  refine lv_istore (lv' := [(5, .int (cM_makers σ (t * 10 + q))), (4, .int (nI q)), (0, .ref (G 0)), (1, .int (nI t)), (2, .int (nI a)), (3, .int (nI k))]) X.1 X.2.1 zd_W_makeOutput_28 hl (by decide) rfl (fun ls hl => ?_)
  refine lv_iload X.1 X.2.1 zd_W_makeOutput_30 (lv_at hl 0 rfl) ?_
  refine lv_iconst (v := -1) X.1 X.2.1 zd_W_makeOutput_32 (by decide) ?_
  refine lv_icmp_ne (tgt := 50) X.1 X.2.1 zd_W_makeOutput_33 (by decide) (fun _ => ?_) (fun h9 => absurd h9 hm)
  refine lv_aload_n X.1 X.2.1 zd_W_makeOutput_50 rfl (lv_at hl 2 rfl) ?_
  refine g_cW_latestClash X hP zd_W_makeOutput_51 ?_
  refine lv_iconst (v := nI 0) X.1 X.2.1 zd_W_makeOutput_54 (by decide) ?_
  refine lv_iload_n X.1 X.2.1 zd_W_makeOutput_55 rfl (lv_at hl 3 rfl) ?_
  refine s_cW_clash X hD hP hS (by omega) zd_W_makeOutput_56 (fun H locs hP hS => ?_)
  have hP : va_P K.1 zcl (cW K G (p_cW_clash σ (upd (cW_clash σ) 0 (nI t)))) H := hP
  refine lv_aload_n X.1 X.2.1 zd_W_makeOutput_57 rfl (lv_at hl 2 rfl) ?_
  refine g_cW_latestClash X hP zd_W_makeOutput_58 ?_
  refine lv_iconst (v := nI 1) X.1 X.2.1 zd_W_makeOutput_61 (by decide) ?_
  refine lv_iload_n X.1 X.2.1 zd_W_makeOutput_62 rfl (lv_at hl 4 rfl) ?_
  refine s_cW_clash X hD hP hS (by omega) zd_W_makeOutput_63 (fun H locs hP hS => ?_)
  have hP : va_P K.1 zcl (cW K G (p_cW_clash σ (upd (upd (cW_clash σ) 0 (nI t)) 1 (nI a)))) H := hP
  refine lv_aload_n X.1 X.2.1 zd_W_makeOutput_64 rfl (lv_at hl 2 rfl) ?_
  refine g_cW_latestClash X hP zd_W_makeOutput_65 ?_
  refine lv_iconst (v := nI 2) X.1 X.2.1 zd_W_makeOutput_68 (by decide) ?_
  refine lv_iload_n X.1 X.2.1 zd_W_makeOutput_69 rfl (lv_at hl 5 rfl) ?_
  refine s_cW_clash X hD hP hS (by omega) zd_W_makeOutput_70 (fun H locs hP hS => ?_)
  have hP : va_P K.1 zcl (cW K G (p_cW_clash σ (upd (upd (upd (cW_clash σ) 0 (nI t)) 1 (nI a)) 2 (nI k)))) H := hP
  refine lv_aload_n X.1 X.2.1 zd_W_makeOutput_71 rfl (lv_at hl 2 rfl) ?_
  refine g_cW_latestClash X hP zd_W_makeOutput_72 ?_
  refine lv_iconst (v := nI 3) X.1 X.2.1 zd_W_makeOutput_75 (by decide) ?_
  refine lv_iload X.1 X.2.1 zd_W_makeOutput_76 (lv_at hl 0 rfl) ?_
  refine s_cW_clash X hD hP hS (by omega) zd_W_makeOutput_78 (fun H locs hP hS => ?_)
  have hP : va_P K.1 zcl (cW K G (p_cW_clash σ (upd (upd (upd (upd (cW_clash σ) 0 (nI t)) 1 (nI a)) 2 (nI k)) 3 (cM_makers σ (t * 10 + q))))) H := hP
  refine lv_aload_n X.1 X.2.1 zd_W_makeOutput_79 rfl (lv_at hl 2 rfl) ?_
  refine g_cW_latestClash X hP zd_W_makeOutput_80 ?_
  refine lv_iconst (v := nI 4) X.1 X.2.1 zd_W_makeOutput_83 (by decide) ?_
  refine lv_aload_n X.1 X.2.1 zd_W_makeOutput_84 rfl (lv_at hl 2 rfl) ?_
  refine g_cW_memory X hP zd_W_makeOutput_85 ?_
  refine lv_iload_n X.1 X.2.1 zd_W_makeOutput_88 rfl (lv_at hl 3 rfl) ?_
  refine lv_iload X.1 X.2.1 zd_W_makeOutput_89 (lv_at hl 1 rfl) ?_
  refine z_callVi (As := [.int (nI t), .int (nI q)]) (rest := [.int (nI 4), .ref (G 4)]) (q0 := 3) (ci := 2) X hml (k_M_makerSettingOf l K G A hD (p_cW_clash σ (upd (upd (upd (upd (cW_clash σ) 0 (nI t)) 1 (nI a)) 2 (nI k)) 3 (cM_makers σ (t * 10 + q)))) t q (by omega) (by omega)) (zk_W_183 X.2.2.2.1 (z_rm (by omega) (by decide))) rfl rfl rfl hP hS rfl hl.1 rfl (Nat.le_of_ble_eq_true rfl) zd_W_makeOutput_91 ⟨Nat.zero_le _, Nat.zero_le _⟩ (fun H locs hP hS => ?_)
  refine s_cW_clash X hD hP hS (by omega) zd_W_makeOutput_94 (fun H locs hP hS => ?_)
  have hP : va_P K.1 zcl (cW K G (p_cW_clash σ (upd (upd (upd (upd (upd (cW_clash σ) 0 (nI t)) 1 (nI a)) 2 (nI k)) 3 (cM_makers σ (t * 10 + q))) 4 (nI (cM_makerSettings (p_cW_clash σ (upd (upd (upd (upd (cW_clash σ) 0 (nI t)) 1 (nI a)) 2 (nI k)) 3 (cM_makers σ (t * 10 + q)))) (t * 10 + q)))))) H := hP
  refine lv_iconst (v := nI 0) X.1 X.2.1 zd_W_makeOutput_95 (by decide) ?_
  exact z_zret X.1 X.2.1 hr hlocks (Or.inl rfl) (by simp [cMake, hq, hne, nI_clamp (show q < 2 ^ 31 by omega), hm]) (by simp [cMake, hq, hne, nI_clamp (show q < 2 ^ 31 by omega), hm]; try rfl) hP hS zd_W_makeOutput_96

theorem k_W_makeOutput (l : Launch) (K : zK) (G : Nat → Nat) (A : Nat → Prop) (hD : ∀ σ, va_D A (cW K G σ)) (σ : cS) (t a k : Nat) (ht : t < 20) (ha : a < 8) (hk : k < 16) (hB : cB σ) : zMet l K A zy_W_makeOutput zws_W_makeOutput 1 [.ref (G 0), .int (nI t), .int (nI a), .int (nI k)] (cW K G σ) (cW K G (cMake σ t a k).2) (some (.int (nI (cMake σ t a k).1))) := by
  rcases hB.2.2.2.2.2.2.2.2 a with hq | ⟨q, hq10, hq⟩
  · exact k_W_makeOutput_n l K G A hD σ t a k ht ha hk hq
  · by_cases hm : cM_makers σ (t * 10 + q) = -1
    · exact k_W_makeOutput_m l K G A hD σ t a k ht ha hk q hq10 hq hm
    · exact k_W_makeOutput_c l K G A hD σ t a k ht ha hk q hq10 hq hm

set_option maxHeartbeats 4000000 in
set_option maxRecDepth 100000 in
/-- forgetFrom's inner loop -/
theorem q_W_forgetFrom_i {p : Program} {e : Env} {s : State} {m : MethodId} {args : Array Value} {below : List Frame} {meth : Method} {c : Code} {Q : State → Prop} (l : Launch) (K : zK) (G : Nat → Nat) (A : Nat → Prop) (hD : ∀ σ, va_D A (cW K G σ)) (X : zFx K zR_W zb_W_forgetFrom p s m args c) (hr : meth.sig.returnType = none) (hml : c.maxLocals = 4) (hlocks : meth.locks = false) (σ : cS) (u n : Nat) (hu : u < 20) (hB : cB σ) (kont : ∀ (H : Heap) (locs : List Loc) (ls : Array Slot), va_P K.1 zcl (cW K G (cFFi σ u (cA_opened σ))) H → va_S A s.heap H locs → lv_has ls 4 [(2, .int (nI u)), (0, .ref (G 0)), (1, .int (nI n))] → W p l e (zrm 2) s m args below meth c H locs 0 0 Q (F0 m 61 ls [])) : ∀ (j i : Nat), i + j = cA_opened σ → ∀ (τ : cS), τ = cFFi σ u i → ∀ (H : Heap) (locs : List Loc) (ls : Array Slot), va_P K.1 zcl (cW K G τ) H → va_S A s.heap H locs → lv_has ls 4 [(3, .int (nI i)), (2, .int (nI u)), (0, .ref (G 0)), (1, .int (nI n))] → W p l e (zrm 2) s m args below meth c H locs 0 0 Q (F0 m 27 ls []) := by
  intro j
  induction j with
  | zero =>
    intro i hi τ hτ H locs ls hP hS hl
    have hTA : cSame τ σ := by rw [hτ]; exact cFFi_same σ u i
    have hoA := hTA.oA
    have hn9 : cA_names τ i = -1 ∨ ∃ q, q < 10 ∧ cA_names τ i = nI q := by rw [hTA.nm]; exact hB.2.2.2.2.2.2.2.2 i
    have hB8 := hB.2.1
    refine lv_iload_n X.1 X.2.1 zd_W_forgetFrom_27 rfl (lv_at hl 0 rfl) ?_
    refine lv_aload_n X.1 X.2.1 zd_W_forgetFrom_28 rfl (lv_at hl 2 rfl) ?_
    refine g_cW_aspects X hP zd_W_forgetFrom_29 ?_
    refine z_callVi (As := []) (rest := [.int (nI i)]) (q0 := 2) (ci := 1) X hml (k_A_count l K G A hD τ ) (zk_W_216 X.2.2.2.1 (z_rm (by omega) (by decide))) rfl rfl rfl hP hS rfl hl.1 rfl (Nat.le_of_ble_eq_true rfl) zd_W_forgetFrom_32 ⟨Nat.zero_le _, Nat.zero_le _⟩ (fun H locs hP hS => ?_)
    refine z_top (congrArg nI hoA) ?_
    refine lv_icmp_ge (tgt := 61) X.1 X.2.1 zd_W_forgetFrom_35 (by decide) (fun _ => ?_) (fun h9 => absurd (by rw [nI_leI (by omega) (by omega)]; omega) h9)
    exact kont H locs ls (by have h9 := hP; rw [hτ, show i = cA_opened σ by omega] at h9; exact h9) hS (by have h9 := hl; rw [show i = cA_opened σ by omega] at h9; exact lv_sub h9 [1, 2, 3] rfl)
  | succ j ih =>
    intro i hi τ hτ H locs ls hP hS hl
    have hTA : cSame τ σ := by rw [hτ]; exact cFFi_same σ u i
    have hoA := hTA.oA
    have hn9 : cA_names τ i = -1 ∨ ∃ q, q < 10 ∧ cA_names τ i = nI q := by rw [hTA.nm]; exact hB.2.2.2.2.2.2.2.2 i
    have hB8 := hB.2.1
    refine lv_iload_n X.1 X.2.1 zd_W_forgetFrom_27 rfl (lv_at hl 0 rfl) ?_
    refine lv_aload_n X.1 X.2.1 zd_W_forgetFrom_28 rfl (lv_at hl 2 rfl) ?_
    refine g_cW_aspects X hP zd_W_forgetFrom_29 ?_
    refine z_callVi (As := []) (rest := [.int (nI i)]) (q0 := 2) (ci := 1) X hml (k_A_count l K G A hD τ ) (zk_W_216 X.2.2.2.1 (z_rm (by omega) (by decide))) rfl rfl rfl hP hS rfl hl.1 rfl (Nat.le_of_ble_eq_true rfl) zd_W_forgetFrom_32 ⟨Nat.zero_le _, Nat.zero_le _⟩ (fun H locs hP hS => ?_)
    refine z_top (congrArg nI hoA) ?_
    refine lv_icmp_ge (tgt := 61) X.1 X.2.1 zd_W_forgetFrom_35 (by decide) (fun h9 => absurd h9 (by rw [nI_leI (by omega) (by omega)]; omega)) (fun _ => ?_)
    refine lv_aload_n X.1 X.2.1 zd_W_forgetFrom_38 rfl (lv_at hl 2 rfl) ?_
    refine g_cW_memory X hP zd_W_forgetFrom_39 ?_
    refine lv_iload_n X.1 X.2.1 zd_W_forgetFrom_42 rfl (lv_at hl 1 rfl) ?_
    refine lv_iload_n X.1 X.2.1 zd_W_forgetFrom_43 rfl (lv_at hl 0 rfl) ?_
    refine lv_aload_n X.1 X.2.1 zd_W_forgetFrom_44 rfl (lv_at hl 2 rfl) ?_
    refine g_cW_aspects X hP zd_W_forgetFrom_45 ?_
    refine lv_iload_n X.1 X.2.1 zd_W_forgetFrom_48 rfl (lv_at hl 0 rfl) ?_
    refine z_callVi (As := [.int (nI i)]) (rest := [.int (nI i), .int (nI u), .ref (G 3)]) (q0 := 2) (ci := 1) X hml (k_A_nameOf l K G A hD τ i (by omega)) (zk_W_176 X.2.2.2.1 (z_rm (by omega) (by decide))) rfl rfl rfl hP hS rfl hl.1 rfl (Nat.le_of_ble_eq_true rfl) zd_W_forgetFrom_49 ⟨Nat.zero_le _, Nat.zero_le _⟩ (fun H locs hP hS => ?_)
    refine z_callVv (As := [.int (nI u), .int (nI i), .int (cA_names τ i)]) (rest := []) (q0 := 3) (ci := 2) X hml (k_M_forget l K G A hD τ u i (cA_names τ i) (by omega) (by omega) (by assumption)) (zk_W_217 X.2.2.2.1 (z_rm (by omega) (by decide))) rfl rfl rfl hP hS rfl hl.1 rfl (Nat.le_of_ble_eq_true rfl) zd_W_forgetFrom_52 ⟨Nat.zero_le _, Nat.zero_le _⟩ (fun H locs hP hS => ?_)
    refine lv_iinc (v := nI (i + 1)) (lv' := [(3, .int (nI (i + 1))), (2, .int (nI u)), (0, .ref (G 0)), (1, .int (nI n))]) X.1 X.2.1 zd_W_forgetFrom_55 hl (k := 0) rfl (nI_1 _) (by decide) rfl (fun ls hl => ?_)
    refine lv_goto (tgt := 27) X.1 X.2.1 zd_W_forgetFrom_58 (by decide) ?_
    exact ih (i + 1) (by omega) _ (by rw [hτ]; rfl) H locs ls hP hS (lv_sub hl [0, 1, 2, 3] rfl)

theorem cB_same {τ σ : cS} (h : cSame τ σ) (hB : cB σ) : cB τ := by
  obtain ⟨h1, h2⟩ := h
  obtain ⟨T, A, m⟩ := σ
  obtain ⟨T', A', m'⟩ := τ
  dsimp only at h1 h2
  subst h1; subst h2
  exact hB

set_option maxHeartbeats 4000000 in
set_option maxRecDepth 100000 in
/-- forgetFrom's outer loop -/
theorem q_W_forgetFrom {p : Program} {e : Env} {s : State} {m : MethodId} {args : Array Value} {below : List Frame} {meth : Method} {c : Code} (l : Launch) (K : zK) (G : Nat → Nat) (A : Nat → Prop) (hD : ∀ σ, va_D A (cW K G σ)) (X : zFx K zR_W zb_W_forgetFrom p s m args c) (hr : meth.sig.returnType = none) (hml : c.maxLocals = 4) (hlocks : meth.locks = false) (σ : cS) (n : Nat) (hB : cB σ) : ∀ (j u : Nat), u + j = cT_opened σ → ∀ (τ : cS), τ = cFF σ n u → ∀ (H : Heap) (locs : List Loc) (ls : Array Slot), va_P K.1 zcl (cW K G τ) H → va_S A s.heap H locs → lv_has ls 4 [(2, .int (nI u)), (0, .ref (G 0)), (1, .int (nI n))] → W p l e (zrm 2) s m args below meth c H locs 0 0 (MQ below (zPost K A (cW K G (cFF σ n (cT_opened σ))) none) args s 0 0 A) (F0 m 2 ls []) := by
  intro j
  induction j with
  | zero =>
    intro u hi τ hτ H locs ls hP hS hl
    have hTA : cSame τ σ := by rw [hτ]; exact cFF_same σ n u
    have hoT := hTA.oT
    have hoA := hTA.oA
    have hBT := hB.1
    have hBt : cB τ := cB_same hTA hB
    refine lv_iload_n X.1 X.2.1 zd_W_forgetFrom_2 rfl (lv_at hl 0 rfl) ?_
    refine lv_aload_n X.1 X.2.1 zd_W_forgetFrom_3 rfl (lv_at hl 1 rfl) ?_
    refine g_cW_targets X hP zd_W_forgetFrom_4 ?_
    refine z_callVi (As := []) (rest := [.int (nI u)]) (q0 := 1) (ci := 0) X hml (k_T_count l K G A hD τ ) (zk_W_212 X.2.2.2.1 (z_rm (by omega) (by decide))) rfl rfl rfl hP hS rfl hl.1 rfl (Nat.le_of_ble_eq_true rfl) zd_W_forgetFrom_7 ⟨Nat.zero_le _, Nat.zero_le _⟩ (fun H locs hP hS => ?_)
    refine z_top (congrArg nI hoT) ?_
    refine lv_icmp_ge (tgt := 67) X.1 X.2.1 zd_W_forgetFrom_10 (by decide) (fun _ => ?_) (fun h9 => absurd (by rw [nI_leI (by omega) (by omega)]; omega) h9)
    exact z_vret X.1 X.2.1 hr hlocks (by rw [hτ, show u = cT_opened σ by omega]) hP hS zd_W_forgetFrom_67
  | succ j ih =>
    intro u hi τ hτ H locs ls hP hS hl
    have hTA : cSame τ σ := by rw [hτ]; exact cFF_same σ n u
    have hoT := hTA.oT
    have hoA := hTA.oA
    have hBT := hB.1
    have hBt : cB τ := cB_same hTA hB
    refine lv_iload_n X.1 X.2.1 zd_W_forgetFrom_2 rfl (lv_at hl 0 rfl) ?_
    refine lv_aload_n X.1 X.2.1 zd_W_forgetFrom_3 rfl (lv_at hl 1 rfl) ?_
    refine g_cW_targets X hP zd_W_forgetFrom_4 ?_
    refine z_callVi (As := []) (rest := [.int (nI u)]) (q0 := 1) (ci := 0) X hml (k_T_count l K G A hD τ ) (zk_W_212 X.2.2.2.1 (z_rm (by omega) (by decide))) rfl rfl rfl hP hS rfl hl.1 rfl (Nat.le_of_ble_eq_true rfl) zd_W_forgetFrom_7 ⟨Nat.zero_le _, Nat.zero_le _⟩ (fun H locs hP hS => ?_)
    refine z_top (congrArg nI hoT) ?_
    refine lv_icmp_ge (tgt := 67) X.1 X.2.1 zd_W_forgetFrom_10 (by decide) (fun h9 => absurd h9 (by rw [nI_leI (by omega) (by omega)]; omega)) (fun _ => ?_)
    refine lv_aload_n X.1 X.2.1 zd_W_forgetFrom_13 rfl (lv_at hl 1 rfl) ?_
    refine g_cW_targets X hP zd_W_forgetFrom_14 ?_
    refine lv_iload_n X.1 X.2.1 zd_W_forgetFrom_17 rfl (lv_at hl 0 rfl) ?_
    refine lv_iload_n X.1 X.2.1 zd_W_forgetFrom_18 rfl (lv_at hl 2 rfl) ?_
    refine z_callVi (As := [.int (nI u), .int (nI n)]) (rest := []) (q0 := 1) (ci := 0) X hml (k_T_leadsTo l K G A hD τ u n (by omega)) (zk_W_215 X.2.2.2.1 (z_rm (by omega) (by decide))) rfl rfl rfl hP hS rfl hl.1 rfl (Nat.le_of_ble_eq_true rfl) zd_W_forgetFrom_19 ⟨Nat.zero_le _, Nat.zero_le _⟩ (fun H locs hP hS => ?_)
    refine lv_if_eq (tgt := 61) X.1 X.2.1 zd_W_forgetFrom_22 (by decide) (fun c1 => ?_) (fun c1 => ?_)
    · rw [z_eq0 (cLead_lt _ _)] at c1
      refine lv_iinc (v := nI (u + 1)) (lv' := [(2, .int (nI (u + 1))), (0, .ref (G 0)), (1, .int (nI n))]) X.1 X.2.1 zd_W_forgetFrom_61 hl (k := 0) rfl (nI_1 _) (by decide) rfl (fun ls hl => ?_)
      refine lv_goto (tgt := 2) X.1 X.2.1 zd_W_forgetFrom_64 (by decide) ?_
      exact ih (u + 1) (by omega) _ (by rw [cFF, ← hτ, if_pos c1]) H locs ls hP hS (lv_sub hl [0, 1, 2] rfl)
    · rw [z_eq0 (cLead_lt _ _)] at c1
      refine lv_iconst (v := nI 0) X.1 X.2.1 zd_W_forgetFrom_25 (by decide) ?_
      refine lv_istore_n (lv' := [(3, .int (nI 0)), (2, .int (nI u)), (0, .ref (G 0)), (1, .int (nI n))]) X.1 X.2.1 zd_W_forgetFrom_26 rfl hl (by decide) rfl (fun ls hl => ?_)
      refine q_W_forgetFrom_i l K G A hD X hr hml hlocks τ u n (by omega) hBt (fun H locs ls hP hS hl => ?_) (cA_opened τ) 0 (Nat.zero_add _) _ rfl H locs ls hP hS (lv_sub hl [0, 1, 2, 3] rfl)
      refine lv_iinc (v := nI (u + 1)) (lv' := [(2, .int (nI (u + 1))), (0, .ref (G 0)), (1, .int (nI n))]) X.1 X.2.1 zd_W_forgetFrom_61 hl (k := 0) rfl (nI_1 _) (by decide) rfl (fun ls hl => ?_)
      refine lv_goto (tgt := 2) X.1 X.2.1 zd_W_forgetFrom_64 (by decide) ?_
      exact ih (u + 1) (by omega) _ (by rw [cFF, ← hτ, if_neg c1, hoA]) H locs ls hP hS (lv_sub hl [0, 1, 2] rfl)

set_option maxHeartbeats 4000000 in
set_option maxRecDepth 100000 in
/-- forgetFrom(n) -/
theorem k_W_forgetFrom (l : Launch) (K : zK) (G : Nat → Nat) (A : Nat → Prop) (hD : ∀ σ, va_D A (cW K G σ)) (σ : cS) (n : Nat) (hB : cB σ) : zMet l K A zy_W_forgetFrom zws_W_forgetFrom 2 [.ref (G 0), .int (nI n)] (cW K G σ) (cW K G (cFF σ n (cT_opened σ))) none := by
  refine z_entry (by decide) (Nat.le_of_ble_eq_true rfl) ?_
  intro p e s m below meth c ls X hr hml hlocks hP hl
  have hS : va_S A s.heap s.heap [] := va_S.rf
  have hl : lv_has ls 4 [(0, .ref (G 0)), (1, .int (nI n))] := hl
  refine lv_iconst (v := nI 0) X.1 X.2.1 zd_W_forgetFrom_0 (by decide) ?_
  refine lv_istore_n (lv' := [(2, .int (nI 0)), (0, .ref (G 0)), (1, .int (nI n))]) X.1 X.2.1 zd_W_forgetFrom_1 rfl hl (by decide) rfl (fun ls hl => ?_)
  exact q_W_forgetFrom l K G A hD X hr hml hlocks σ n hB (cT_opened σ) 0 (Nat.zero_add _) _ rfl s.heap [] ls hP hS (lv_sub hl [0, 1, 2] rfl)

set_option maxHeartbeats 4000000 in
set_option maxRecDepth 100000 in
/-- forgetAllOf's inner loop -/
theorem q_W_forgetAllOf_i {p : Program} {e : Env} {s : State} {m : MethodId} {args : Array Value} {below : List Frame} {meth : Method} {c : Code} {Q : State → Prop} (l : Launch) (K : zK) (G : Nat → Nat) (A : Nat → Prop) (hD : ∀ σ, va_D A (cW K G σ)) (X : zFx K zR_W zb_W_forgetAllOf p s m args c) (hr : meth.sig.returnType = none) (hml : c.maxLocals = 4) (hlocks : meth.locks = false) (σ : cS) (b n : Nat) (hb : b < 8) (hB : cB σ) (kont : ∀ (H : Heap) (locs : List Loc) (ls : Array Slot), va_P K.1 zcl (cW K G (cFAi σ b (cT_opened σ))) H → va_S A s.heap H locs → lv_has ls 4 [(2, .int (nI b)), (0, .ref (G 0)), (1, .int (nI n))] → W p l e (zrm 2) s m args below meth c H locs 0 0 Q (F0 m 61 ls [])) : ∀ (j i : Nat), i + j = cT_opened σ → ∀ (τ : cS), τ = cFAi σ b i → ∀ (H : Heap) (locs : List Loc) (ls : Array Slot), va_P K.1 zcl (cW K G τ) H → va_S A s.heap H locs → lv_has ls 4 [(3, .int (nI i)), (2, .int (nI b)), (0, .ref (G 0)), (1, .int (nI n))] → W p l e (zrm 2) s m args below meth c H locs 0 0 Q (F0 m 27 ls []) := by
  intro j
  induction j with
  | zero =>
    intro i hi τ hτ H locs ls hP hS hl
    have hTA : cSame τ σ := by rw [hτ]; exact cFAi_same σ b i
    have hoT := hTA.oT
    have hn9 : cA_names τ b = -1 ∨ ∃ q, q < 10 ∧ cA_names τ b = nI q := by rw [hTA.nm]; exact hB.2.2.2.2.2.2.2.2 b
    have hB8 := hB.1
    refine lv_iload_n X.1 X.2.1 zd_W_forgetAllOf_27 rfl (lv_at hl 0 rfl) ?_
    refine lv_aload_n X.1 X.2.1 zd_W_forgetAllOf_28 rfl (lv_at hl 2 rfl) ?_
    refine g_cW_targets X hP zd_W_forgetAllOf_29 ?_
    refine z_callVi (As := []) (rest := [.int (nI i)]) (q0 := 1) (ci := 0) X hml (k_T_count l K G A hD τ ) (zk_W_212 X.2.2.2.1 (z_rm (by omega) (by decide))) rfl rfl rfl hP hS rfl hl.1 rfl (Nat.le_of_ble_eq_true rfl) zd_W_forgetAllOf_32 ⟨Nat.zero_le _, Nat.zero_le _⟩ (fun H locs hP hS => ?_)
    refine z_top (congrArg nI hoT) ?_
    refine lv_icmp_ge (tgt := 61) X.1 X.2.1 zd_W_forgetAllOf_35 (by decide) (fun _ => ?_) (fun h9 => absurd (by rw [nI_leI (by omega) (by omega)]; omega) h9)
    exact kont H locs ls (by have h9 := hP; rw [hτ, show i = cT_opened σ by omega] at h9; exact h9) hS (by have h9 := hl; rw [show i = cT_opened σ by omega] at h9; exact lv_sub h9 [1, 2, 3] rfl)
  | succ j ih =>
    intro i hi τ hτ H locs ls hP hS hl
    have hTA : cSame τ σ := by rw [hτ]; exact cFAi_same σ b i
    have hoT := hTA.oT
    have hn9 : cA_names τ b = -1 ∨ ∃ q, q < 10 ∧ cA_names τ b = nI q := by rw [hTA.nm]; exact hB.2.2.2.2.2.2.2.2 b
    have hB8 := hB.1
    refine lv_iload_n X.1 X.2.1 zd_W_forgetAllOf_27 rfl (lv_at hl 0 rfl) ?_
    refine lv_aload_n X.1 X.2.1 zd_W_forgetAllOf_28 rfl (lv_at hl 2 rfl) ?_
    refine g_cW_targets X hP zd_W_forgetAllOf_29 ?_
    refine z_callVi (As := []) (rest := [.int (nI i)]) (q0 := 1) (ci := 0) X hml (k_T_count l K G A hD τ ) (zk_W_212 X.2.2.2.1 (z_rm (by omega) (by decide))) rfl rfl rfl hP hS rfl hl.1 rfl (Nat.le_of_ble_eq_true rfl) zd_W_forgetAllOf_32 ⟨Nat.zero_le _, Nat.zero_le _⟩ (fun H locs hP hS => ?_)
    refine z_top (congrArg nI hoT) ?_
    refine lv_icmp_ge (tgt := 61) X.1 X.2.1 zd_W_forgetAllOf_35 (by decide) (fun h9 => absurd h9 (by rw [nI_leI (by omega) (by omega)]; omega)) (fun _ => ?_)
    refine lv_aload_n X.1 X.2.1 zd_W_forgetAllOf_38 rfl (lv_at hl 2 rfl) ?_
    refine g_cW_memory X hP zd_W_forgetAllOf_39 ?_
    refine lv_iload_n X.1 X.2.1 zd_W_forgetAllOf_42 rfl (lv_at hl 0 rfl) ?_
    refine lv_iload_n X.1 X.2.1 zd_W_forgetAllOf_43 rfl (lv_at hl 1 rfl) ?_
    refine lv_aload_n X.1 X.2.1 zd_W_forgetAllOf_44 rfl (lv_at hl 2 rfl) ?_
    refine g_cW_aspects X hP zd_W_forgetAllOf_45 ?_
    refine lv_iload_n X.1 X.2.1 zd_W_forgetAllOf_48 rfl (lv_at hl 1 rfl) ?_
    refine z_callVi (As := [.int (nI b)]) (rest := [.int (nI b), .int (nI i), .ref (G 3)]) (q0 := 2) (ci := 1) X hml (k_A_nameOf l K G A hD τ b (by omega)) (zk_W_176 X.2.2.2.1 (z_rm (by omega) (by decide))) rfl rfl rfl hP hS rfl hl.1 rfl (Nat.le_of_ble_eq_true rfl) zd_W_forgetAllOf_49 ⟨Nat.zero_le _, Nat.zero_le _⟩ (fun H locs hP hS => ?_)
    refine z_callVv (As := [.int (nI i), .int (nI b), .int (cA_names τ b)]) (rest := []) (q0 := 3) (ci := 2) X hml (k_M_forget l K G A hD τ i b (cA_names τ b) (by omega) (by omega) (by assumption)) (zk_W_217 X.2.2.2.1 (z_rm (by omega) (by decide))) rfl rfl rfl hP hS rfl hl.1 rfl (Nat.le_of_ble_eq_true rfl) zd_W_forgetAllOf_52 ⟨Nat.zero_le _, Nat.zero_le _⟩ (fun H locs hP hS => ?_)
    refine lv_iinc (v := nI (i + 1)) (lv' := [(3, .int (nI (i + 1))), (2, .int (nI b)), (0, .ref (G 0)), (1, .int (nI n))]) X.1 X.2.1 zd_W_forgetAllOf_55 hl (k := 0) rfl (nI_1 _) (by decide) rfl (fun ls hl => ?_)
    refine lv_goto (tgt := 27) X.1 X.2.1 zd_W_forgetAllOf_58 (by decide) ?_
    exact ih (i + 1) (by omega) _ (by rw [hτ]; rfl) H locs ls hP hS (lv_sub hl [0, 1, 2, 3] rfl)

set_option maxHeartbeats 4000000 in
set_option maxRecDepth 100000 in
/-- forgetAllOf's outer loop -/
theorem q_W_forgetAllOf {p : Program} {e : Env} {s : State} {m : MethodId} {args : Array Value} {below : List Frame} {meth : Method} {c : Code} (l : Launch) (K : zK) (G : Nat → Nat) (A : Nat → Prop) (hD : ∀ σ, va_D A (cW K G σ)) (X : zFx K zR_W zb_W_forgetAllOf p s m args c) (hr : meth.sig.returnType = none) (hml : c.maxLocals = 4) (hlocks : meth.locks = false) (σ : cS) (n : Nat) (hB : cB σ) : ∀ (j b : Nat), b + j = cA_opened σ → ∀ (τ : cS), τ = cFA σ n b → ∀ (H : Heap) (locs : List Loc) (ls : Array Slot), va_P K.1 zcl (cW K G τ) H → va_S A s.heap H locs → lv_has ls 4 [(2, .int (nI b)), (0, .ref (G 0)), (1, .int (nI n))] → W p l e (zrm 2) s m args below meth c H locs 0 0 (MQ below (zPost K A (cW K G (cFA σ n (cA_opened σ))) none) args s 0 0 A) (F0 m 2 ls []) := by
  intro j
  induction j with
  | zero =>
    intro b hi τ hτ H locs ls hP hS hl
    have hTA : cSame τ σ := by rw [hτ]; exact cFA_same σ n b
    have hoT := hTA.oT
    have hoA := hTA.oA
    have hBT := hB.2.1
    have hBt : cB τ := cB_same hTA hB
    refine lv_iload_n X.1 X.2.1 zd_W_forgetAllOf_2 rfl (lv_at hl 0 rfl) ?_
    refine lv_aload_n X.1 X.2.1 zd_W_forgetAllOf_3 rfl (lv_at hl 1 rfl) ?_
    refine g_cW_aspects X hP zd_W_forgetAllOf_4 ?_
    refine z_callVi (As := []) (rest := [.int (nI b)]) (q0 := 2) (ci := 1) X hml (k_A_count l K G A hD τ ) (zk_W_216 X.2.2.2.1 (z_rm (by omega) (by decide))) rfl rfl rfl hP hS rfl hl.1 rfl (Nat.le_of_ble_eq_true rfl) zd_W_forgetAllOf_7 ⟨Nat.zero_le _, Nat.zero_le _⟩ (fun H locs hP hS => ?_)
    refine z_top (congrArg nI hoA) ?_
    refine lv_icmp_ge (tgt := 67) X.1 X.2.1 zd_W_forgetAllOf_10 (by decide) (fun _ => ?_) (fun h9 => absurd (by rw [nI_leI (by omega) (by omega)]; omega) h9)
    exact z_vret X.1 X.2.1 hr hlocks (by rw [hτ, show b = cA_opened σ by omega]) hP hS zd_W_forgetAllOf_67
  | succ j ih =>
    intro b hi τ hτ H locs ls hP hS hl
    have hTA : cSame τ σ := by rw [hτ]; exact cFA_same σ n b
    have hoT := hTA.oT
    have hoA := hTA.oA
    have hBT := hB.2.1
    have hBt : cB τ := cB_same hTA hB
    refine lv_iload_n X.1 X.2.1 zd_W_forgetAllOf_2 rfl (lv_at hl 0 rfl) ?_
    refine lv_aload_n X.1 X.2.1 zd_W_forgetAllOf_3 rfl (lv_at hl 1 rfl) ?_
    refine g_cW_aspects X hP zd_W_forgetAllOf_4 ?_
    refine z_callVi (As := []) (rest := [.int (nI b)]) (q0 := 2) (ci := 1) X hml (k_A_count l K G A hD τ ) (zk_W_216 X.2.2.2.1 (z_rm (by omega) (by decide))) rfl rfl rfl hP hS rfl hl.1 rfl (Nat.le_of_ble_eq_true rfl) zd_W_forgetAllOf_7 ⟨Nat.zero_le _, Nat.zero_le _⟩ (fun H locs hP hS => ?_)
    refine z_top (congrArg nI hoA) ?_
    refine lv_icmp_ge (tgt := 67) X.1 X.2.1 zd_W_forgetAllOf_10 (by decide) (fun h9 => absurd h9 (by rw [nI_leI (by omega) (by omega)]; omega)) (fun _ => ?_)
    refine lv_aload_n X.1 X.2.1 zd_W_forgetAllOf_13 rfl (lv_at hl 1 rfl) ?_
    refine g_cW_aspects X hP zd_W_forgetAllOf_14 ?_
    refine lv_iload_n X.1 X.2.1 zd_W_forgetAllOf_17 rfl (lv_at hl 0 rfl) ?_
    refine lv_iload_n X.1 X.2.1 zd_W_forgetAllOf_18 rfl (lv_at hl 2 rfl) ?_
    refine z_callVi (As := [.int (nI b), .int (nI n)]) (rest := []) (q0 := 2) (ci := 1) X hml (k_A_leadsTo l K G A hD τ b n (by omega)) (zk_W_81 X.2.2.2.1 (z_rm (by omega) (by decide))) rfl rfl rfl hP hS rfl hl.1 rfl (Nat.le_of_ble_eq_true rfl) zd_W_forgetAllOf_19 ⟨Nat.zero_le _, Nat.zero_le _⟩ (fun H locs hP hS => ?_)
    refine lv_if_eq (tgt := 61) X.1 X.2.1 zd_W_forgetAllOf_22 (by decide) (fun c1 => ?_) (fun c1 => ?_)
    · rw [z_eq0 (cLead_lt _ _)] at c1
      refine lv_iinc (v := nI (b + 1)) (lv' := [(2, .int (nI (b + 1))), (0, .ref (G 0)), (1, .int (nI n))]) X.1 X.2.1 zd_W_forgetAllOf_61 hl (k := 0) rfl (nI_1 _) (by decide) rfl (fun ls hl => ?_)
      refine lv_goto (tgt := 2) X.1 X.2.1 zd_W_forgetAllOf_64 (by decide) ?_
      exact ih (b + 1) (by omega) _ (by rw [cFA, ← hτ, if_pos c1]) H locs ls hP hS (lv_sub hl [0, 1, 2] rfl)
    · rw [z_eq0 (cLead_lt _ _)] at c1
      refine lv_iconst (v := nI 0) X.1 X.2.1 zd_W_forgetAllOf_25 (by decide) ?_
      refine lv_istore_n (lv' := [(3, .int (nI 0)), (2, .int (nI b)), (0, .ref (G 0)), (1, .int (nI n))]) X.1 X.2.1 zd_W_forgetAllOf_26 rfl hl (by decide) rfl (fun ls hl => ?_)
      refine q_W_forgetAllOf_i l K G A hD X hr hml hlocks τ b n (by omega) hBt (fun H locs ls hP hS hl => ?_) (cT_opened τ) 0 (Nat.zero_add _) _ rfl H locs ls hP hS (lv_sub hl [0, 1, 2, 3] rfl)
      refine lv_iinc (v := nI (b + 1)) (lv' := [(2, .int (nI (b + 1))), (0, .ref (G 0)), (1, .int (nI n))]) X.1 X.2.1 zd_W_forgetAllOf_61 hl (k := 0) rfl (nI_1 _) (by decide) rfl (fun ls hl => ?_)
      refine lv_goto (tgt := 2) X.1 X.2.1 zd_W_forgetAllOf_64 (by decide) ?_
      exact ih (b + 1) (by omega) _ (by rw [cFA, ← hτ, if_neg c1, hoT]) H locs ls hP hS (lv_sub hl [0, 1, 2] rfl)

set_option maxHeartbeats 4000000 in
set_option maxRecDepth 100000 in
/-- forgetAllOf(n) -/
theorem k_W_forgetAllOf (l : Launch) (K : zK) (G : Nat → Nat) (A : Nat → Prop) (hD : ∀ σ, va_D A (cW K G σ)) (σ : cS) (n : Nat) (hB : cB σ) : zMet l K A zy_W_forgetAllOf zws_W_forgetAllOf 2 [.ref (G 0), .int (nI n)] (cW K G σ) (cW K G (cFA σ n (cA_opened σ))) none := by
  refine z_entry (by decide) (Nat.le_of_ble_eq_true rfl) ?_
  intro p e s m below meth c ls X hr hml hlocks hP hl
  have hS : va_S A s.heap s.heap [] := va_S.rf
  have hl : lv_has ls 4 [(0, .ref (G 0)), (1, .int (nI n))] := hl
  refine lv_iconst (v := nI 0) X.1 X.2.1 zd_W_forgetAllOf_0 (by decide) ?_
  refine lv_istore_n (lv' := [(2, .int (nI 0)), (0, .ref (G 0)), (1, .int (nI n))]) X.1 X.2.1 zd_W_forgetAllOf_1 rfl hl (by decide) rfl (fun ls hl => ?_)
  exact q_W_forgetAllOf l K G A hD X hr hml hlocks σ n hB (cA_opened σ) 0 (Nat.zero_add _) _ rfl s.heap [] ls hP hS (lv_sub hl [0, 1, 2] rfl)

