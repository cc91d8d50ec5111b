/-! contracts of the reference, second part (by program: wip/gen/r2.py) -/
theorem z_rng2 {y : Int32} {N : Nat} (h0 : ¬ y < 0) (h : ¬ nI N < y) (hN : N + 1 < 2 ^ 31) : ∃ j : Nat, j < N + 1 ∧ y = nI j := by
  rcases pk_ix y hN with q | q | q
  · exact absurd q h0
  · refine absurd ?_ h
    have h1 : nI N < nI (N + 1) := nI_lt (by omega) hN
    rw [Int32.lt_iff_toInt_lt] at h1 ⊢
    rw [Int32.le_iff_toInt_le] at q
    omega
  · exact q
def mAdd0 (σ : mS) (n w o : Nat) : mS := p_mR_rowSize (p_mR_row (p_mR_thrown σ 0) (upN (mR_row σ) (12 * n + 4 * w + mR_rowSize σ (3 * n + w)) o)) (upN (mR_rowSize σ) (3 * n + w) (mR_rowSize σ (3 * n + w) + 1))
def mChange (σ : mS) (n : Nat) (v : Int64) (g : Int32) : mS := p_mR_providers (p_mR_value (p_mR_thrown σ 0) (vp_updL (mR_value σ) n v)) (upd (mR_providers σ) n g)
def mOpenA (σ : mS) (k : Nat) (al w g nm : Int32) : mS := p_mR_aspects (p_mR_nameOf (p_mR_gives (p_mR_wants (p_mR_along (p_mR_kind (p_mR_thrown σ 0) (upN (mR_kind σ) (mR_aspects σ) k)) (upd (mR_along σ) (mR_aspects σ) al)) (upd (mR_wants σ) (mR_aspects σ) w)) (upd (mR_gives σ) (mR_aspects σ) g)) (upd (mR_nameOf σ) (mR_aspects σ) nm)) (mR_aspects σ + 1)
def mNd (σ : mS) (a b : Nat) : Nat → Nat
  | 0 => 0
  | j + 1 => if mNd σ a b j = 0 then (if mR_needs σ (3 * a + j) = b then 1 else 0) else 1
theorem mNd_le (σ : mS) (a b j : Nat) : mNd σ a b j ≤ 1 := by
  induction j with
  | zero => exact Nat.zero_le 1
  | succ j ih => unfold mNd; split <;> (try split) <;> omega
theorem mNd_lt (σ : mS) (a b j : Nat) : mNd σ a b j < 2 ^ 31 := Nat.lt_of_le_of_lt (mNd_le σ a b j) (by decide)
def mHN (σ : mS) (a b : Nat) : Nat := mNd σ a b (mR_needMany σ a)
theorem mHN_lt (σ : mS) (a b : Nat) : mHN σ a b < 2 ^ 31 := mNd_lt _ _ _ _
def mBc (σ : mS) (b : Nat) (x : Int32) : Nat → Int32
  | 0 => x
  | c + 1 => mBc σ b x c ||| (if mHN σ b c = 0 then nI 0 else if (mBc σ b x c >>> (nI c &&& 31)) &&& nI 1 = nI 1 then nI 1 <<< (nI b &&& 31) else nI 0)
def mBb (σ : mS) (x : Int32) : Nat → Int32
  | 0 => x
  | b + 1 => mBc σ b (mBb σ x b) (mR_aspects σ)
def mBr (σ : mS) (x : Int32) : Nat → Int32
  | 0 => x
  | r + 1 => mBb σ (mBr σ x r) (mR_aspects σ)
/-- the bits of all that need a -/
def mBits (σ : mS) (a : Nat) : Int32 := mBr σ (nI 1 <<< (nI a &&& 31)) 8
def mAk (σ : mS) (t a : Nat) : Nat → mS
  | 0 => σ
  | i + 1 => p_mR_known (mAk σ t a i) (upN (mR_known (mAk σ t a i)) ((t * 8 + a) * 16 + i) 0)
def mAm (σ : mS) (t a : Nat) : Nat → mS
  | 0 => σ
  | i + 1 => if mR_madeBy (mAm σ t a i) (10 * t + i) = -1 then mAm σ t a i else if (mR_madeBy (mAm σ t a i) (10 * t + i)).toNatClampNeg / 16 = a then p_mR_madeBy (mAm σ t a i) (upd (mR_madeBy (mAm σ t a i)) (10 * t + i) (-1)) else mAm σ t a i
def mAo (σ : mS) (a : Nat) : Nat → mS
  | 0 => σ
  | t + 1 => mAm (mAk (mAo σ a t) t a 16) t a 10
def mNl (σ : mS) (x : Int32) : Nat → mS
  | 0 => σ
  | b + 1 => if (x >>> (nI b &&& 31)) &&& nI 1 = nI 1 then mAo (mNl σ x b) b (mR_targets σ) else mNl σ x b
def mNeed0 (σ : mS) (n o : Nat) : mS := p_mR_needMany (p_mR_needs (p_mR_thrown σ 0) (upN (mR_needs σ) (3 * n + mR_needMany σ n) o)) (upN (mR_needMany σ) n (mR_needMany σ n + 1))
theorem mAk_same (σ : mS) (t a i : Nat) : mSame (mAk σ t a i) σ := by
  induction i with
  | zero => exact mSame.rf σ
  | succ i ih => rw [mAk]; exact (mSame_known _ _).tr ih
theorem mAm_same (σ : mS) (t a i : Nat) : mSame (mAm σ t a i) σ := by
  induction i with
  | zero => exact mSame.rf σ
  | succ i ih =>
    rw [mAm]
    split
    · exact ih
    · split
      · exact (mSame_madeBy _ _).tr ih
      · exact ih
theorem mAo_same (σ : mS) (a t : Nat) : mSame (mAo σ a t) σ := by
  induction t with
  | zero => exact mSame.rf σ
  | succ t ih => rw [mAo]; exact (mAm_same _ _ _ _).tr ((mAk_same _ _ _ _).tr ih)
theorem mNl_same (σ : mS) (x : Int32) (b : Nat) : mSame (mNl σ x b) σ := by
  induction b with
  | zero => exact mSame.rf σ
  | succ b ih =>
    rw [mNl]
    split
    · exact (mAo_same _ _ _).tr ih
    · exact ih
theorem mNd_congr {σ τ : mS} (h : mR_needs τ = mR_needs σ) (a b j : Nat) : mNd τ a b j = mNd σ a b j := by
  induction j with
  | zero => rfl
  | succ j ih => rw [mNd, mNd, ih, h]
theorem mHN_congr {σ τ : mS} (h : mR_needs τ = mR_needs σ) (h2 : mR_needMany τ = mR_needMany σ) (a b : Nat) : mHN τ a b = mHN σ a b := by
  unfold mHN; rw [mNd_congr h, h2]
theorem mBc_congr {σ τ : mS} (h : mR_needs τ = mR_needs σ) (h2 : mR_needMany τ = mR_needMany σ) (b : Nat) (x : Int32) (c : Nat) : mBc τ b x c = mBc σ b x c := by
  induction c with
  | zero => rfl
  | succ c ih => rw [mBc, mBc, ih, mHN_congr h h2]
theorem mBb_congr {σ τ : mS} (h : mR_needs τ = mR_needs σ) (h2 : mR_needMany τ = mR_needMany σ) (h3 : mR_aspects τ = mR_aspects σ) (x : Int32) (b : Nat) : mBb τ x b = mBb σ x b := by
  induction b with
  | zero => rfl
  | succ b ih => rw [mBb, mBb, ih, mBc_congr h h2, h3]
theorem mBr_congr {σ τ : mS} (h : mR_needs τ = mR_needs σ) (h2 : mR_needMany τ = mR_needMany σ) (h3 : mR_aspects τ = mR_aspects σ) (x : Int32) (r : Nat) : mBr τ x r = mBr σ x r := by
  induction r with
  | zero => rfl
  | succ r ih => rw [mBr, mBr, ih, mBb_congr h h2 h3, h3]
theorem mBits_th (σ : mS) (a : Nat) : mBits (p_mR_thrown σ 0) a = mBits σ a := mBr_congr (σ := σ) (τ := p_mR_thrown σ 0) rfl rfl rfl _ _
theorem mHN_th (σ : mS) (a b : Nat) : mHN (p_mR_thrown σ 0) a b = mHN σ a b := mHN_congr (σ := σ) (τ := p_mR_thrown σ 0) rfl rfl a b
/-- what madeBy holds -/
def mMb (σ : mS) : Prop := ∀ q, mR_madeBy σ q = -1 ∨ ∃ n, n < 128 ∧ mR_madeBy σ q = nI n
theorem mMb_upd {σ : mS} (h : mMb σ) (k : Nat) : mMb (p_mR_madeBy σ (upd (mR_madeBy σ) k (-1))) := by
  intro q
  show upd (mR_madeBy σ) k (-1) q = -1 ∨ _
  by_cases e : q = k
  · subst e; left; simp [upd]
  · have h1 := h q
    rcases h1 with h1 | ⟨n, hn, h1⟩
    · left; simp [upd, e, h1]
    · right; exact ⟨n, hn, by show upd (mR_madeBy σ) k (-1) q = nI n; simp [upd, e, h1]⟩
theorem mAk_mb {σ : mS} (h : mMb σ) (t a i : Nat) : mMb (mAk σ t a i) := by
  induction i with
  | zero => exact h
  | succ i ih => rw [mAk]; exact ih
theorem mAm_mb {σ : mS} (h : mMb σ) (t a i : Nat) : mMb (mAm σ t a i) := by
  induction i with
  | zero => exact h
  | succ i ih =>
    rw [mAm]
    split
    · exact ih
    · split
      · exact mMb_upd ih _
      · exact ih
theorem mAo_mb {σ : mS} (h : mMb σ) (a t : Nat) : mMb (mAo σ a t) := by
  induction t with
  | zero => exact h
  | succ t ih => rw [mAo]; exact mAm_mb (mAk_mb ih _ _ _) _ _ _
theorem mNl_mb {σ : mS} (h : mMb σ) (x : Int32) (b : Nat) : mMb (mNl σ x b) := by
  induction b with
  | zero => exact h
  | succ b ih =>
    rw [mNl]
    split
    · exact mAo_mb ih _ _
    · exact ih

set_option maxHeartbeats 4000000 in
set_option maxRecDepth 100000 in
/-- add: refused -/
theorem r_add_bad (l : Launch) (K : zK) (G : Nat → Nat) (A : Nat → Prop) (hD : ∀ σ, va_D A (mW K G σ)) (σ : mS) (x y z : Int32) (hB : mB σ) (h : ¬ ∃ n o w, n < mR_targets σ ∧ x = nI n ∧ o < mR_targets σ ∧ z = nI o ∧ mR_standsFor σ n = n ∧ w < 3 ∧ y = nI w ∧ o < n) : zMet l K A zy_R_add zws_R_add 2 [.ref (G 0), .int x, .int y, .int z] (mW K G σ) (mW K G (p_mR_thrown σ 0)) (some (.int (nI 0))) := by
  have hBo := hB.1
  have hBa := hB.2.1
  refine z_entry (by decide) (Nat.le_of_ble_eq_true rfl) ?_
  intro p e s m below meth c ls X hr hml hlocks hP hl
  have hS : va_S A s.heap s.heap [] := va_S.rf
  have hl : lv_has ls 4 [(0, .ref (G 0)), (1, .int x), (2, .int y), (3, .int z)] := hl
  refine lv_aload_n X.1 X.2.1 zd_R_add_0 rfl (lv_at hl 0 rfl) ?_
  refine lv_iconst (v := nI 0) X.1 X.2.1 zd_R_add_1 (by decide) ?_
  refine s_mR_thrown X hD hP hS zd_R_add_2 (fun H locs hP hS => ?_)
  have hP : va_P K.1 zcl (mW K G (p_mR_thrown σ 0)) H := hP
  refine lv_aload_n X.1 X.2.1 zd_R_add_5 rfl (lv_at hl 0 rfl) ?_
  refine lv_iload_n X.1 X.2.1 zd_R_add_6 rfl (lv_at hl 1 rfl) ?_
  refine z_callVi (As := [.int x]) (rest := []) (q0 := 0) (ci := 4) X hml (r_isOwn l K G A hD (p_mR_thrown σ 0) x hB) (zk_R_93 X.2.2.2.1 (z_rm (by omega) (by decide))) rfl rfl rfl hP hS rfl hl.1 rfl (Nat.le_of_ble_eq_true rfl) zd_R_add_7 ⟨Nat.zero_le _, Nat.zero_le _⟩ (fun H locs hP hS => ?_)
  refine lv_if_eq (tgt := 49) X.1 X.2.1 zd_R_add_10 (by decide) (fun c1 => ?_) (fun c1 => ?_)
  · rw [z_eq0 (mOwn_lt _ _)] at c1
    refine lv_iconst (v := nI 0) X.1 X.2.1 zd_R_add_49 (by decide) ?_
    exact z_zret X.1 X.2.1 hr hlocks (Or.inl rfl) rfl rfl hP hS zd_R_add_50
  · rw [z_eq0 (mOwn_lt _ _)] at c1
    obtain ⟨n, hn, hs, rfl⟩ := mOwn_ex (σ := σ) (by omega) c1
    refine lv_aload_n X.1 X.2.1 zd_R_add_13 rfl (lv_at hl 0 rfl) ?_
    refine lv_iload_n X.1 X.2.1 zd_R_add_14 rfl (lv_at hl 3 rfl) ?_
    refine z_callVi (As := [.int z]) (rest := []) (q0 := 0) (ci := 4) X hml (r_isTarget l K G A hD (p_mR_thrown σ 0) z) (zk_R_82 X.2.2.2.1 (z_rm (by omega) (by decide))) rfl rfl rfl hP hS rfl hl.1 rfl (Nat.le_of_ble_eq_true rfl) zd_R_add_15 ⟨Nat.zero_le _, Nat.zero_le _⟩ (fun H locs hP hS => ?_)
    refine lv_if_eq (tgt := 49) X.1 X.2.1 zd_R_add_18 (by decide) (fun c2 => ?_) (fun c2 => ?_)
    · rw [z_eq0 (cHas_lt _ _)] at c2
      refine lv_iconst (v := nI 0) X.1 X.2.1 zd_R_add_49 (by decide) ?_
      exact z_zret X.1 X.2.1 hr hlocks (Or.inl rfl) rfl rfl hP hS zd_R_add_50
    · rw [z_eq0 (cHas_lt _ _)] at c2
      obtain ⟨o, ho, rfl⟩ := cHas_ex (o := mR_targets σ) (by omega) c2
      refine lv_iload_n X.1 X.2.1 zd_R_add_21 rfl (lv_at hl 2 rfl) ?_
      refine lv_if_lt (tgt := 49) X.1 X.2.1 zd_R_add_22 (by decide) (fun c3 => ?_) (fun c3 => ?_)
      · refine lv_iconst (v := nI 0) X.1 X.2.1 zd_R_add_49 (by decide) ?_
        exact z_zret X.1 X.2.1 hr hlocks (Or.inl rfl) rfl rfl hP hS zd_R_add_50
      · refine lv_iload_n X.1 X.2.1 zd_R_add_25 rfl (lv_at hl 2 rfl) ?_
        refine lv_iconst (v := nI 2) X.1 X.2.1 zd_R_add_26 (by decide) ?_
        refine lv_icmp_gt (tgt := 49) X.1 X.2.1 zd_R_add_27 (by decide) (fun c4 => ?_) (fun c4 => ?_)
        · refine lv_iconst (v := nI 0) X.1 X.2.1 zd_R_add_49 (by decide) ?_
          exact z_zret X.1 X.2.1 hr hlocks (Or.inl rfl) rfl rfl hP hS zd_R_add_50
        · obtain ⟨w, hw, rfl⟩ := z_rng2 c3 c4 (by decide)
          refine lv_iload_n X.1 X.2.1 zd_R_add_30 rfl (lv_at hl 3 rfl) ?_
          refine lv_iload_n X.1 X.2.1 zd_R_add_31 rfl (lv_at hl 1 rfl) ?_
          refine lv_icmp_ge (tgt := 49) X.1 X.2.1 zd_R_add_32 (by decide) (fun c5 => ?_) (fun c5 => ?_)
          · rw [nI_leI (by omega) (by omega)] at c5
            refine lv_iconst (v := nI 0) X.1 X.2.1 zd_R_add_49 (by decide) ?_
            exact z_zret X.1 X.2.1 hr hlocks (Or.inl rfl) rfl rfl hP hS zd_R_add_50
          · rw [nI_leI (by omega) (by omega)] at c5
            exact absurd ⟨n, o, w, hn, rfl, ho, rfl, hs, hw, rfl, (by omega)⟩ h

set_option maxHeartbeats 4000000 in
set_option maxRecDepth 100000 in
/-- add: the row is full -/
theorem r_add_0 (l : Launch) (K : zK) (G : Nat → Nat) (A : Nat → Prop) (hD : ∀ σ, va_D A (mW K G σ)) (σ : mS) (n w o : Nat) (hB : mB σ) (hn : n < mR_targets σ) (ho : o < mR_targets σ) (hs : mR_standsFor σ n = n) (hw : w < 3) (hon : o < n) (h4 : mR_rowSize σ (3 * n + w) = 4) : zMet l K A zy_R_add zws_R_add 2 [.ref (G 0), .int (nI n), .int (nI w), .int (nI o)] (mW K G σ) (mW K G (p_mR_thrown σ 0)) (some (.int (nI 0))) := by
  have hBo := hB.1
  have hBa := hB.2.1
  refine z_entry (by decide) (Nat.le_of_ble_eq_true rfl) ?_
  intro p e s m below meth c ls X hr hml hlocks hP hl
  have hS : va_S A s.heap s.heap [] := va_S.rf
  have hl : lv_has ls 4 [(0, .ref (G 0)), (1, .int (nI n)), (2, .int (nI w)), (3, .int (nI o))] := hl
  refine lv_aload_n X.1 X.2.1 zd_R_add_0 rfl (lv_at hl 0 rfl) ?_
  refine lv_iconst (v := nI 0) X.1 X.2.1 zd_R_add_1 (by decide) ?_
  refine s_mR_thrown X hD hP hS zd_R_add_2 (fun H locs hP hS => ?_)
  have hP : va_P K.1 zcl (mW K G (p_mR_thrown σ 0)) H := hP
  refine lv_aload_n X.1 X.2.1 zd_R_add_5 rfl (lv_at hl 0 rfl) ?_
  refine lv_iload_n X.1 X.2.1 zd_R_add_6 rfl (lv_at hl 1 rfl) ?_
  refine z_callVi (As := [.int (nI n)]) (rest := []) (q0 := 0) (ci := 4) X hml (r_isOwn l K G A hD (p_mR_thrown σ 0) (nI n) hB) (zk_R_93 X.2.2.2.1 (z_rm (by omega) (by decide))) rfl rfl rfl hP hS rfl hl.1 rfl (Nat.le_of_ble_eq_true rfl) zd_R_add_7 ⟨Nat.zero_le _, Nat.zero_le _⟩ (fun H locs hP hS => ?_)
  refine lv_if_eq (tgt := 49) X.1 X.2.1 zd_R_add_10 (by decide) (fun h9 => absurd h9 (by show ¬ nI (mOwn σ _) = 0; rw [mOwn_y (by omega) hn hs]; decide)) (fun _ => ?_)
  refine lv_aload_n X.1 X.2.1 zd_R_add_13 rfl (lv_at hl 0 rfl) ?_
  refine lv_iload_n X.1 X.2.1 zd_R_add_14 rfl (lv_at hl 3 rfl) ?_
  refine z_callVi (As := [.int (nI o)]) (rest := []) (q0 := 0) (ci := 4) X hml (r_isTarget l K G A hD (p_mR_thrown σ 0) (nI o)) (zk_R_82 X.2.2.2.1 (z_rm (by omega) (by decide))) rfl rfl rfl hP hS rfl hl.1 rfl (Nat.le_of_ble_eq_true rfl) zd_R_add_15 ⟨Nat.zero_le _, Nat.zero_le _⟩ (fun H locs hP hS => ?_)
  refine lv_if_eq (tgt := 49) X.1 X.2.1 zd_R_add_18 (by decide) (fun h9 => absurd h9 (by show ¬ nI (cHas (mR_targets σ) _) = 0; rw [cHas_y ho (by omega)]; decide)) (fun _ => ?_)
  refine lv_iload_n X.1 X.2.1 zd_R_add_21 rfl (lv_at hl 2 rfl) ?_
  refine lv_if_lt (tgt := 49) X.1 X.2.1 zd_R_add_22 (by decide) (fun h9 => absurd h9 (nI_pos (by omega))) (fun _ => ?_)
  refine lv_iload_n X.1 X.2.1 zd_R_add_25 rfl (lv_at hl 2 rfl) ?_
  refine lv_iconst (v := nI 2) X.1 X.2.1 zd_R_add_26 (by decide) ?_
  refine lv_icmp_gt (tgt := 49) X.1 X.2.1 zd_R_add_27 (by decide) (fun h9 => absurd h9 (by rw [nI_ltI (by omega) (by omega)]; omega)) (fun _ => ?_)
  refine lv_iload_n X.1 X.2.1 zd_R_add_30 rfl (lv_at hl 3 rfl) ?_
  refine lv_iload_n X.1 X.2.1 zd_R_add_31 rfl (lv_at hl 1 rfl) ?_
  refine lv_icmp_ge (tgt := 49) X.1 X.2.1 zd_R_add_32 (by decide) (fun h9 => absurd h9 (by rw [nI_leI (by omega) (by omega)]; omega)) (fun _ => ?_)
  refine lv_aload_n X.1 X.2.1 zd_R_add_35 rfl (lv_at hl 0 rfl) ?_
  refine g_mR_rowSize X hP zd_R_add_36 ?_
  refine lv_iconst (v := nI 3) X.1 X.2.1 zd_R_add_39 (by decide) ?_
  refine lv_iload_n X.1 X.2.1 zd_R_add_40 rfl (lv_at hl 1 rfl) ?_
  refine lv_imul X.1 X.2.1 zd_R_add_41 ?_
  refine z_top (pk_mul _ _) ?_
  refine lv_iload_n X.1 X.2.1 zd_R_add_42 rfl (lv_at hl 2 rfl) ?_
  refine lv_iadd X.1 X.2.1 zd_R_add_43 ?_
  refine z_top (nI_add _ _) ?_
  refine l_mR_rowSize X hP (by omega) zd_R_add_44 ?_
  refine z_top (y := (nI (mR_rowSize σ ((3 * n) + w)))) rfl ?_
  refine lv_iconst (v := nI 4) X.1 X.2.1 zd_R_add_45 (by decide) ?_
  refine lv_icmp_ne (tgt := 51) X.1 X.2.1 zd_R_add_46 (by decide) (fun h9 => absurd (by rw [nI_eq (by omega) (by omega)]; omega) h9) (fun _ => ?_)
  refine lv_iconst (v := nI 0) X.1 X.2.1 zd_R_add_49 (by decide) ?_
  exact z_zret X.1 X.2.1 hr hlocks (Or.inl rfl) rfl rfl hP hS zd_R_add_50

set_option maxHeartbeats 4000000 in
set_option maxRecDepth 100000 in
/-- add -/
theorem r_add_1 (l : Launch) (K : zK) (G : Nat → Nat) (A : Nat → Prop) (hD : ∀ σ, va_D A (mW K G σ)) (σ : mS) (n w o : Nat) (hB : mB σ) (hn : n < mR_targets σ) (ho : o < mR_targets σ) (hs : mR_standsFor σ n = n) (hw : w < 3) (hon : o < n) (h4 : mR_rowSize σ (3 * n + w) < 4) (hB2 : mB (mAdd0 σ n w o)) (hT0 : ∀ q, mR_touched σ q ≤ 1) : zMet l K A zy_R_add zws_R_add 2 [.ref (G 0), .int (nI n), .int (nI w), .int (nI o)] (mW K G σ) (mW K G (mFF (mAdd0 σ n w o) n (mR_targets σ))) (some (.int (nI 1))) := by
  have hBo := hB.1
  have hBa := hB.2.1
  refine z_entry (by decide) (Nat.le_of_ble_eq_true rfl) ?_
  intro p e s m below meth c ls X hr hml hlocks hP hl
  have hS : va_S A s.heap s.heap [] := va_S.rf
  have hl : lv_has ls 4 [(0, .ref (G 0)), (1, .int (nI n)), (2, .int (nI w)), (3, .int (nI o))] := hl
  refine lv_aload_n X.1 X.2.1 zd_R_add_0 rfl (lv_at hl 0 rfl) ?_
  refine lv_iconst (v := nI 0) X.1 X.2.1 zd_R_add_1 (by decide) ?_
  refine s_mR_thrown X hD hP hS zd_R_add_2 (fun H locs hP hS => ?_)
  have hP : va_P K.1 zcl (mW K G (p_mR_thrown σ 0)) H := hP
  refine lv_aload_n X.1 X.2.1 zd_R_add_5 rfl (lv_at hl 0 rfl) ?_
  refine lv_iload_n X.1 X.2.1 zd_R_add_6 rfl (lv_at hl 1 rfl) ?_
  refine z_callVi (As := [.int (nI n)]) (rest := []) (q0 := 0) (ci := 4) X hml (r_isOwn l K G A hD (p_mR_thrown σ 0) (nI n) hB) (zk_R_93 X.2.2.2.1 (z_rm (by omega) (by decide))) rfl rfl rfl hP hS rfl hl.1 rfl (Nat.le_of_ble_eq_true rfl) zd_R_add_7 ⟨Nat.zero_le _, Nat.zero_le _⟩ (fun H locs hP hS => ?_)
  refine lv_if_eq (tgt := 49) X.1 X.2.1 zd_R_add_10 (by decide) (fun h9 => absurd h9 (by show ¬ nI (mOwn σ _) = 0; rw [mOwn_y (by omega) hn hs]; decide)) (fun _ => ?_)
  refine lv_aload_n X.1 X.2.1 zd_R_add_13 rfl (lv_at hl 0 rfl) ?_
  refine lv_iload_n X.1 X.2.1 zd_R_add_14 rfl (lv_at hl 3 rfl) ?_
  refine z_callVi (As := [.int (nI o)]) (rest := []) (q0 := 0) (ci := 4) X hml (r_isTarget l K G A hD (p_mR_thrown σ 0) (nI o)) (zk_R_82 X.2.2.2.1 (z_rm (by omega) (by decide))) rfl rfl rfl hP hS rfl hl.1 rfl (Nat.le_of_ble_eq_true rfl) zd_R_add_15 ⟨Nat.zero_le _, Nat.zero_le _⟩ (fun H locs hP hS => ?_)
  refine lv_if_eq (tgt := 49) X.1 X.2.1 zd_R_add_18 (by decide) (fun h9 => absurd h9 (by show ¬ nI (cHas (mR_targets σ) _) = 0; rw [cHas_y ho (by omega)]; decide)) (fun _ => ?_)
  refine lv_iload_n X.1 X.2.1 zd_R_add_21 rfl (lv_at hl 2 rfl) ?_
  refine lv_if_lt (tgt := 49) X.1 X.2.1 zd_R_add_22 (by decide) (fun h9 => absurd h9 (nI_pos (by omega))) (fun _ => ?_)
  refine lv_iload_n X.1 X.2.1 zd_R_add_25 rfl (lv_at hl 2 rfl) ?_
  refine lv_iconst (v := nI 2) X.1 X.2.1 zd_R_add_26 (by decide) ?_
  refine lv_icmp_gt (tgt := 49) X.1 X.2.1 zd_R_add_27 (by decide) (fun h9 => absurd h9 (by rw [nI_ltI (by omega) (by omega)]; omega)) (fun _ => ?_)
  refine lv_iload_n X.1 X.2.1 zd_R_add_30 rfl (lv_at hl 3 rfl) ?_
  refine lv_iload_n X.1 X.2.1 zd_R_add_31 rfl (lv_at hl 1 rfl) ?_
  refine lv_icmp_ge (tgt := 49) X.1 X.2.1 zd_R_add_32 (by decide) (fun h9 => absurd h9 (by rw [nI_leI (by omega) (by omega)]; omega)) (fun _ => ?_)
  refine lv_aload_n X.1 X.2.1 zd_R_add_35 rfl (lv_at hl 0 rfl) ?_
  refine g_mR_rowSize X hP zd_R_add_36 ?_
  refine lv_iconst (v := nI 3) X.1 X.2.1 zd_R_add_39 (by decide) ?_
  refine lv_iload_n X.1 X.2.1 zd_R_add_40 rfl (lv_at hl 1 rfl) ?_
  refine lv_imul X.1 X.2.1 zd_R_add_41 ?_
  refine z_top (pk_mul _ _) ?_
  refine lv_iload_n X.1 X.2.1 zd_R_add_42 rfl (lv_at hl 2 rfl) ?_
  refine lv_iadd X.1 X.2.1 zd_R_add_43 ?_
  refine z_top (nI_add _ _) ?_
  refine l_mR_rowSize X hP (by omega) zd_R_add_44 ?_
  refine z_top (y := (nI (mR_rowSize σ ((3 * n) + w)))) rfl ?_
  refine lv_iconst (v := nI 4) X.1 X.2.1 zd_R_add_45 (by decide) ?_
  refine lv_icmp_ne (tgt := 51) X.1 X.2.1 zd_R_add_46 (by decide) (fun _ => ?_) (fun h9 => absurd h9 (by rw [nI_eq (by omega) (by omega)]; omega))
  refine lv_aload_n X.1 X.2.1 zd_R_add_51 rfl (lv_at hl 0 rfl) ?_
  refine g_mR_row X hP zd_R_add_52 ?_
  refine lv_bipush (v := nI 12) X.1 X.2.1 zd_R_add_55 (by decide) ?_
  refine lv_iload_n X.1 X.2.1 zd_R_add_57 rfl (lv_at hl 1 rfl) ?_
  refine lv_imul X.1 X.2.1 zd_R_add_58 ?_
  refine z_top (pk_mul _ _) ?_
  refine lv_iconst (v := nI 4) X.1 X.2.1 zd_R_add_59 (by decide) ?_
  refine lv_iload_n X.1 X.2.1 zd_R_add_60 rfl (lv_at hl 2 rfl) ?_
  refine lv_imul X.1 X.2.1 zd_R_add_61 ?_
  refine z_top (pk_mul _ _) ?_
  refine lv_iadd X.1 X.2.1 zd_R_add_62 ?_
  refine z_top (nI_add _ _) ?_
  refine lv_aload_n X.1 X.2.1 zd_R_add_63 rfl (lv_at hl 0 rfl) ?_
  refine g_mR_rowSize X hP zd_R_add_64 ?_
  refine lv_iconst (v := nI 3) X.1 X.2.1 zd_R_add_67 (by decide) ?_
  refine lv_iload_n X.1 X.2.1 zd_R_add_68 rfl (lv_at hl 1 rfl) ?_
  refine lv_imul X.1 X.2.1 zd_R_add_69 ?_
  refine z_top (pk_mul _ _) ?_
  refine lv_iload_n X.1 X.2.1 zd_R_add_70 rfl (lv_at hl 2 rfl) ?_
  refine lv_iadd X.1 X.2.1 zd_R_add_71 ?_
  refine z_top (nI_add _ _) ?_
  refine l_mR_rowSize X hP (by omega) zd_R_add_72 ?_
  refine z_top (y := (nI (mR_rowSize σ ((3 * n) + w)))) rfl ?_
  refine lv_iadd X.1 X.2.1 zd_R_add_73 ?_
  refine z_top (nI_add _ _) ?_
  refine lv_iload_n X.1 X.2.1 zd_R_add_74 rfl (lv_at hl 3 rfl) ?_
  refine s_mR_row X hD hP hS (by omega) zd_R_add_75 (fun H locs hP hS => ?_)
  have hP : va_P K.1 zcl (mW K G (p_mR_row (p_mR_thrown σ 0) (upN (mR_row σ) (((12 * n) + (4 * w)) + (mR_rowSize σ ((3 * n) + w))) o))) H := hP
  refine lv_aload_n X.1 X.2.1 zd_R_add_76 rfl (lv_at hl 0 rfl) ?_
  refine g_mR_rowSize X hP zd_R_add_77 ?_
  refine lv_iconst (v := nI 3) X.1 X.2.1 zd_R_add_80 (by decide) ?_
  refine lv_iload_n X.1 X.2.1 zd_R_add_81 rfl (lv_at hl 1 rfl) ?_
  refine lv_imul X.1 X.2.1 zd_R_add_82 ?_
  refine z_top (pk_mul _ _) ?_
  refine lv_iload_n X.1 X.2.1 zd_R_add_83 rfl (lv_at hl 2 rfl) ?_
  refine lv_iadd X.1 X.2.1 zd_R_add_84 ?_
  refine z_top (nI_add _ _) ?_
  refine lv_dup2_11 X.1 X.2.1 zd_R_add_85 rfl rfl ?_
  refine l_mR_rowSize X hP (by omega) zd_R_add_86 ?_
  refine z_top (y := (nI (mR_rowSize σ ((3 * n) + w)))) rfl ?_
  refine lv_iconst (v := nI 1) X.1 X.2.1 zd_R_add_87 (by decide) ?_
  refine lv_iadd X.1 X.2.1 zd_R_add_88 ?_
  refine z_top (nI_add _ _) ?_
  refine s_mR_rowSize X hD hP hS (by omega) zd_R_add_89 (fun H locs hP hS => ?_)
  have hP : va_P K.1 zcl (mW K G (p_mR_rowSize (p_mR_row (p_mR_thrown σ 0) (upN (mR_row σ) (((12 * n) + (4 * w)) + (mR_rowSize σ ((3 * n) + w))) o)) (upN (mR_rowSize σ) ((3 * n) + w) ((mR_rowSize σ ((3 * n) + w)) + 1)))) H := hP
  refine lv_aload_n X.1 X.2.1 zd_R_add_90 rfl (lv_at hl 0 rfl) ?_
  refine lv_iload_n X.1 X.2.1 zd_R_add_91 rfl (lv_at hl 1 rfl) ?_
  refine z_callVv (As := [.int (nI n)]) (rest := []) (q0 := 0) (ci := 4) X hml (r_forgetFrom l K G A hD (p_mR_rowSize (p_mR_row (p_mR_thrown σ 0) (upN (mR_row σ) (((12 * n) + (4 * w)) + (mR_rowSize σ ((3 * n) + w))) o)) (upN (mR_rowSize σ) ((3 * n) + w) ((mR_rowSize σ ((3 * n) + w)) + 1))) n (by omega) hB2 hT0) (zk_R_96 X.2.2.2.1 (z_rm (by omega) (by decide))) rfl rfl rfl hP hS rfl hl.1 rfl (Nat.le_of_ble_eq_true rfl) zd_R_add_92 ⟨Nat.zero_le _, Nat.zero_le _⟩ (fun H locs hP hS => ?_)
  refine lv_iconst (v := nI 1) X.1 X.2.1 zd_R_add_95 (by decide) ?_
  exact z_zret X.1 X.2.1 hr hlocks (Or.inr rfl) rfl rfl hP hS zd_R_add_96

set_option maxHeartbeats 4000000 in
set_option maxRecDepth 100000 in
/-- change: refused -/
theorem r_change_bad (l : Launch) (K : zK) (G : Nat → Nat) (A : Nat → Prop) (hD : ∀ σ, va_D A (mW K G σ)) (σ : mS) (x : Int32) (v : Int64) (g : Int32) (hB : mB σ) (h : ¬ ∃ n, n < mR_targets σ ∧ x = nI n ∧ mR_standsFor σ n = n) : zMet l K A zy_R_change zws_R_change 2 [.ref (G 0), .int x, .long v, .int g] (mW K G σ) (mW K G (p_mR_thrown σ 0)) (some (.int (nI 0))) := by
  have hBo := hB.1
  have hBa := hB.2.1
  refine z_entry (by decide) (Nat.le_of_ble_eq_true rfl) ?_
  intro p e s m below meth c ls X hr hml hlocks hP hl
  have hS : va_S A s.heap s.heap [] := va_S.rf
  have hl : lv_has ls 6 [(0, .ref (G 0)), (1, .int x), (2, .long v), (4, .int g)] := hl
  refine lv_aload_n X.1 X.2.1 zd_R_change_0 rfl (lv_at hl 0 rfl) ?_
  refine lv_iconst (v := nI 0) X.1 X.2.1 zd_R_change_1 (by decide) ?_
  refine s_mR_thrown X hD hP hS zd_R_change_2 (fun H locs hP hS => ?_)
  have hP : va_P K.1 zcl (mW K G (p_mR_thrown σ 0)) H := hP
  refine lv_aload_n X.1 X.2.1 zd_R_change_5 rfl (lv_at hl 0 rfl) ?_
  refine lv_iload_n X.1 X.2.1 zd_R_change_6 rfl (lv_at hl 1 rfl) ?_
  refine z_callVi (As := [.int x]) (rest := []) (q0 := 0) (ci := 4) X hml (r_isOwn l K G A hD (p_mR_thrown σ 0) x hB) (zk_R_93 X.2.2.2.1 (z_rm (by omega) (by decide))) rfl rfl rfl hP hS rfl hl.1 rfl (Nat.le_of_ble_eq_true rfl) zd_R_change_7 ⟨Nat.zero_le _, Nat.zero_le _⟩ (fun H locs hP hS => ?_)
  refine lv_if_ne (tgt := 15) X.1 X.2.1 zd_R_change_10 (by decide) (fun h9 => absurd (by apply Classical.byContradiction; intro q; rw [z_eq0 (mOwn_lt _ _)] at q; obtain ⟨n, hn, hs, e⟩ := mOwn_ex (σ := σ) (by omega) q; exact h ⟨n, hn, e, hs⟩) h9) (fun _ => ?_)
  refine lv_iconst (v := nI 0) X.1 X.2.1 zd_R_change_13 (by decide) ?_
  exact z_zret X.1 X.2.1 hr hlocks (Or.inl rfl) rfl rfl hP hS zd_R_change_14

set_option maxHeartbeats 4000000 in
set_option maxRecDepth 100000 in
/-- change: the same -/
theorem r_change_s (l : Launch) (K : zK) (G : Nat → Nat) (A : Nat → Prop) (hD : ∀ σ, va_D A (mW K G σ)) (σ : mS) (n : Nat) (v : Int64) (g : Int32) (hB : mB σ) (hn : n < mR_targets σ) (hs : mR_standsFor σ n = n) (hd : mR_value σ n = v ∧ mR_providers σ n = g &&& nI 255) : zMet l K A zy_R_change zws_R_change 2 [.ref (G 0), .int (nI n), .long v, .int g] (mW K G σ) (mW K G (mChange σ n v (g &&& nI 255))) (some (.int (nI 1))) := by
  have hBo := hB.1
  have hBa := hB.2.1
  refine z_entry (by decide) (Nat.le_of_ble_eq_true rfl) ?_
  intro p e s m below meth c ls X hr hml hlocks hP hl
  have hS : va_S A s.heap s.heap [] := va_S.rf
  have hl : lv_has ls 6 [(0, .ref (G 0)), (1, .int (nI n)), (2, .long v), (4, .int g)] := hl
  refine lv_aload_n X.1 X.2.1 zd_R_change_0 rfl (lv_at hl 0 rfl) ?_
  refine lv_iconst (v := nI 0) X.1 X.2.1 zd_R_change_1 (by decide) ?_
  refine s_mR_thrown X hD hP hS zd_R_change_2 (fun H locs hP hS => ?_)
  have hP : va_P K.1 zcl (mW K G (p_mR_thrown σ 0)) H := hP
  refine lv_aload_n X.1 X.2.1 zd_R_change_5 rfl (lv_at hl 0 rfl) ?_
  refine lv_iload_n X.1 X.2.1 zd_R_change_6 rfl (lv_at hl 1 rfl) ?_
  refine z_callVi (As := [.int (nI n)]) (rest := []) (q0 := 0) (ci := 4) X hml (r_isOwn l K G A hD (p_mR_thrown σ 0) (nI n) hB) (zk_R_93 X.2.2.2.1 (z_rm (by omega) (by decide))) rfl rfl rfl hP hS rfl hl.1 rfl (Nat.le_of_ble_eq_true rfl) zd_R_change_7 ⟨Nat.zero_le _, Nat.zero_le _⟩ (fun H locs hP hS => ?_)
  refine lv_if_ne (tgt := 15) X.1 X.2.1 zd_R_change_10 (by decide) (fun _ => ?_) (fun h9 => absurd h9 (by show ¬ nI (mOwn σ _) = 0; rw [mOwn_y (by omega) hn hs]; decide))
  refine lv_aload_n X.1 X.2.1 zd_R_change_15 rfl (lv_at hl 0 rfl) ?_
  refine g_mR_value X hP zd_R_change_16 ?_
  refine lv_iload_n X.1 X.2.1 zd_R_change_19 rfl (lv_at hl 1 rfl) ?_
  refine l_mR_value X hP (by omega) zd_R_change_20 ?_
  refine z_topl (y := (mR_value σ n)) rfl ?_
  refine lv_lload_n X.1 X.2.1 zd_R_change_21 rfl (lv_at hl 2 rfl) ?_
  refine W.lcmp X.1 X.2.1 zd_R_change_22 ?_
  refine lv_if_ne (tgt := 41) X.1 X.2.1 zd_R_change_23 (by decide) (fun h9 => absurd ((lg_cmp_eq _ _).mpr hd.1) h9) (fun _ => ?_)
  refine lv_aload_n X.1 X.2.1 zd_R_change_26 rfl (lv_at hl 0 rfl) ?_
  refine g_mR_providers X hP zd_R_change_27 ?_
  refine lv_iload_n X.1 X.2.1 zd_R_change_30 rfl (lv_at hl 1 rfl) ?_
  refine l_mR_providers X hP (by omega) zd_R_change_31 ?_
  refine z_top (y := (mR_providers σ n)) rfl ?_
  refine lv_iload X.1 X.2.1 zd_R_change_32 (lv_at hl 3 rfl) ?_
  refine lv_sipush (v := nI 255) X.1 X.2.1 zd_R_change_34 (by decide) ?_
  refine lv_iand X.1 X.2.1 zd_R_change_37 ?_
  refine lv_icmp_eq (tgt := 45) X.1 X.2.1 zd_R_change_38 (by decide) (fun _ => ?_) (fun h9 => absurd hd.2 h9)
  refine lv_iconst (v := nI 0) X.1 X.2.1 zd_R_change_45 (by decide) ?_
  refine lv_istore (lv' := [(5, .int (nI 0)), (0, .ref (G 0)), (1, .int (nI n)), (2, .long v), (4, .int g)]) X.1 X.2.1 zd_R_change_46 hl (by decide) rfl (fun ls hl => ?_)
  refine lv_aload_n X.1 X.2.1 zd_R_change_48 rfl (lv_at hl 1 rfl) ?_
  refine g_mR_value X hP zd_R_change_49 ?_
  refine lv_iload_n X.1 X.2.1 zd_R_change_52 rfl (lv_at hl 2 rfl) ?_
  refine lv_lload_n X.1 X.2.1 zd_R_change_53 rfl (lv_at hl 3 rfl) ?_
  refine s_mR_value X hD hP hS (by omega) zd_R_change_54 (fun H locs hP hS => ?_)
  have hP : va_P K.1 zcl (mW K G (p_mR_value (p_mR_thrown σ 0) (vp_updL (mR_value σ) n v))) H := hP
  refine lv_aload_n X.1 X.2.1 zd_R_change_55 rfl (lv_at hl 1 rfl) ?_
  refine g_mR_providers X hP zd_R_change_56 ?_
  refine lv_iload_n X.1 X.2.1 zd_R_change_59 rfl (lv_at hl 2 rfl) ?_
  refine lv_iload X.1 X.2.1 zd_R_change_60 (lv_at hl 4 rfl) ?_
  refine lv_sipush (v := nI 255) X.1 X.2.1 zd_R_change_62 (by decide) ?_
  refine lv_iand X.1 X.2.1 zd_R_change_65 ?_
  refine s_mR_providers X hD hP hS (by omega) zd_R_change_66 (fun H locs hP hS => ?_)
  have hP : va_P K.1 zcl (mW K G (p_mR_providers (p_mR_value (p_mR_thrown σ 0) (vp_updL (mR_value σ) n v)) (upd (mR_providers σ) n (g &&& (nI 255))))) H := hP
  refine lv_iload X.1 X.2.1 zd_R_change_67 (lv_at hl 0 rfl) ?_
  refine lv_if_eq (tgt := 77) X.1 X.2.1 zd_R_change_69 (by decide) (fun _ => ?_) (fun h9 => absurd rfl h9)
  refine lv_iconst (v := nI 1) X.1 X.2.1 zd_R_change_77 (by decide) ?_
  exact z_zret X.1 X.2.1 hr hlocks (Or.inr rfl) rfl rfl hP hS zd_R_change_78

set_option maxHeartbeats 4000000 in
set_option maxRecDepth 100000 in
/-- change: another -/
theorem r_change_d (l : Launch) (K : zK) (G : Nat → Nat) (A : Nat → Prop) (hD : ∀ σ, va_D A (mW K G σ)) (σ : mS) (n : Nat) (v : Int64) (g : Int32) (hB : mB σ) (hn : n < mR_targets σ) (hs : mR_standsFor σ n = n) (hd : ¬ (mR_value σ n = v ∧ mR_providers σ n = g &&& nI 255)) (hB2 : mB (mChange σ n v (g &&& nI 255))) (hT0 : ∀ q, mR_touched σ q ≤ 1) : zMet l K A zy_R_change zws_R_change 2 [.ref (G 0), .int (nI n), .long v, .int g] (mW K G σ) (mW K G (mFF (mChange σ n v (g &&& nI 255)) n (mR_targets σ))) (some (.int (nI 1))) := by
  have hBo := hB.1
  have hBa := hB.2.1
  refine z_entry (by decide) (Nat.le_of_ble_eq_true rfl) ?_
  intro p e s m below meth c ls X hr hml hlocks hP hl
  have hS : va_S A s.heap s.heap [] := va_S.rf
  have hl : lv_has ls 6 [(0, .ref (G 0)), (1, .int (nI n)), (2, .long v), (4, .int g)] := hl
  refine lv_aload_n X.1 X.2.1 zd_R_change_0 rfl (lv_at hl 0 rfl) ?_
  refine lv_iconst (v := nI 0) X.1 X.2.1 zd_R_change_1 (by decide) ?_
  refine s_mR_thrown X hD hP hS zd_R_change_2 (fun H locs hP hS => ?_)
  have hP : va_P K.1 zcl (mW K G (p_mR_thrown σ 0)) H := hP
  refine lv_aload_n X.1 X.2.1 zd_R_change_5 rfl (lv_at hl 0 rfl) ?_
  refine lv_iload_n X.1 X.2.1 zd_R_change_6 rfl (lv_at hl 1 rfl) ?_
  refine z_callVi (As := [.int (nI n)]) (rest := []) (q0 := 0) (ci := 4) X hml (r_isOwn l K G A hD (p_mR_thrown σ 0) (nI n) hB) (zk_R_93 X.2.2.2.1 (z_rm (by omega) (by decide))) rfl rfl rfl hP hS rfl hl.1 rfl (Nat.le_of_ble_eq_true rfl) zd_R_change_7 ⟨Nat.zero_le _, Nat.zero_le _⟩ (fun H locs hP hS => ?_)
  refine lv_if_ne (tgt := 15) X.1 X.2.1 zd_R_change_10 (by decide) (fun _ => ?_) (fun h9 => absurd h9 (by show ¬ nI (mOwn σ _) = 0; rw [mOwn_y (by omega) hn hs]; decide))
  refine lv_aload_n X.1 X.2.1 zd_R_change_15 rfl (lv_at hl 0 rfl) ?_
  refine g_mR_value X hP zd_R_change_16 ?_
  refine lv_iload_n X.1 X.2.1 zd_R_change_19 rfl (lv_at hl 1 rfl) ?_
  refine l_mR_value X hP (by omega) zd_R_change_20 ?_
  refine z_topl (y := (mR_value σ n)) rfl ?_
  refine lv_lload_n X.1 X.2.1 zd_R_change_21 rfl (lv_at hl 2 rfl) ?_
  refine W.lcmp X.1 X.2.1 zd_R_change_22 ?_
  refine lv_if_ne (tgt := 41) X.1 X.2.1 zd_R_change_23 (by decide) (fun c1 => ?_) (fun c1 => ?_)
  · refine lv_iconst (v := nI 1) X.1 X.2.1 zd_R_change_41 (by decide) ?_
    refine lv_goto (tgt := 46) X.1 X.2.1 zd_R_change_42 (by decide) ?_
    refine lv_istore (lv' := [(5, .int (nI 1)), (0, .ref (G 0)), (1, .int (nI n)), (2, .long v), (4, .int g)]) X.1 X.2.1 zd_R_change_46 hl (by decide) rfl (fun ls hl => ?_)
    refine lv_aload_n X.1 X.2.1 zd_R_change_48 rfl (lv_at hl 1 rfl) ?_
    refine g_mR_value X hP zd_R_change_49 ?_
    refine lv_iload_n X.1 X.2.1 zd_R_change_52 rfl (lv_at hl 2 rfl) ?_
    refine lv_lload_n X.1 X.2.1 zd_R_change_53 rfl (lv_at hl 3 rfl) ?_
    refine s_mR_value X hD hP hS (by omega) zd_R_change_54 (fun H locs hP hS => ?_)
    have hP : va_P K.1 zcl (mW K G (p_mR_value (p_mR_thrown σ 0) (vp_updL (mR_value σ) n v))) H := hP
    refine lv_aload_n X.1 X.2.1 zd_R_change_55 rfl (lv_at hl 1 rfl) ?_
    refine g_mR_providers X hP zd_R_change_56 ?_
    refine lv_iload_n X.1 X.2.1 zd_R_change_59 rfl (lv_at hl 2 rfl) ?_
    refine lv_iload X.1 X.2.1 zd_R_change_60 (lv_at hl 4 rfl) ?_
    refine lv_sipush (v := nI 255) X.1 X.2.1 zd_R_change_62 (by decide) ?_
    refine lv_iand X.1 X.2.1 zd_R_change_65 ?_
    refine s_mR_providers X hD hP hS (by omega) zd_R_change_66 (fun H locs hP hS => ?_)
    have hP : va_P K.1 zcl (mW K G (p_mR_providers (p_mR_value (p_mR_thrown σ 0) (vp_updL (mR_value σ) n v)) (upd (mR_providers σ) n (g &&& (nI 255))))) H := hP
    refine lv_iload X.1 X.2.1 zd_R_change_67 (lv_at hl 0 rfl) ?_
    refine lv_if_eq (tgt := 77) X.1 X.2.1 zd_R_change_69 (by decide) (fun h9 => absurd h9 (by decide)) (fun _ => ?_)
    refine lv_aload_n X.1 X.2.1 zd_R_change_72 rfl (lv_at hl 1 rfl) ?_
    refine lv_iload_n X.1 X.2.1 zd_R_change_73 rfl (lv_at hl 2 rfl) ?_
    refine z_callVv (As := [.int (nI n)]) (rest := []) (q0 := 0) (ci := 4) X hml (r_forgetFrom l K G A hD (p_mR_providers (p_mR_value (p_mR_thrown σ 0) (vp_updL (mR_value σ) n v)) (upd (mR_providers σ) n (g &&& (nI 255)))) n (by omega) hB2 hT0) (zk_R_96 X.2.2.2.1 (z_rm (by omega) (by decide))) rfl rfl rfl hP hS rfl hl.1 rfl (Nat.le_of_ble_eq_true rfl) zd_R_change_74 ⟨Nat.zero_le _, Nat.zero_le _⟩ (fun H locs hP hS => ?_)
    refine lv_iconst (v := nI 1) X.1 X.2.1 zd_R_change_77 (by decide) ?_
    exact z_zret X.1 X.2.1 hr hlocks (Or.inr rfl) rfl rfl hP hS zd_R_change_78
  · refine lv_aload_n X.1 X.2.1 zd_R_change_26 rfl (lv_at hl 0 rfl) ?_
    refine g_mR_providers X hP zd_R_change_27 ?_
    refine lv_iload_n X.1 X.2.1 zd_R_change_30 rfl (lv_at hl 1 rfl) ?_
    refine l_mR_providers X hP (by omega) zd_R_change_31 ?_
    refine z_top (y := (mR_providers σ n)) rfl ?_
    refine lv_iload X.1 X.2.1 zd_R_change_32 (lv_at hl 3 rfl) ?_
    refine lv_sipush (v := nI 255) X.1 X.2.1 zd_R_change_34 (by decide) ?_
    refine lv_iand X.1 X.2.1 zd_R_change_37 ?_
    refine lv_icmp_eq (tgt := 45) X.1 X.2.1 zd_R_change_38 (by decide) (fun c2 => ?_) (fun c2 => ?_)
    · exact absurd ⟨(lg_cmp_eq _ _).mp c1, c2⟩ hd
    · refine lv_iconst (v := nI 1) X.1 X.2.1 zd_R_change_41 (by decide) ?_
      refine lv_goto (tgt := 46) X.1 X.2.1 zd_R_change_42 (by decide) ?_
      refine lv_istore (lv' := [(5, .int (nI 1)), (0, .ref (G 0)), (1, .int (nI n)), (2, .long v), (4, .int g)]) X.1 X.2.1 zd_R_change_46 hl (by decide) rfl (fun ls hl => ?_)
      refine lv_aload_n X.1 X.2.1 zd_R_change_48 rfl (lv_at hl 1 rfl) ?_
      refine g_mR_value X hP zd_R_change_49 ?_
      refine lv_iload_n X.1 X.2.1 zd_R_change_52 rfl (lv_at hl 2 rfl) ?_
      refine lv_lload_n X.1 X.2.1 zd_R_change_53 rfl (lv_at hl 3 rfl) ?_
      refine s_mR_value X hD hP hS (by omega) zd_R_change_54 (fun H locs hP hS => ?_)
      have hP : va_P K.1 zcl (mW K G (p_mR_value (p_mR_thrown σ 0) (vp_updL (mR_value σ) n v))) H := hP
      refine lv_aload_n X.1 X.2.1 zd_R_change_55 rfl (lv_at hl 1 rfl) ?_
      refine g_mR_providers X hP zd_R_change_56 ?_
      refine lv_iload_n X.1 X.2.1 zd_R_change_59 rfl (lv_at hl 2 rfl) ?_
      refine lv_iload X.1 X.2.1 zd_R_change_60 (lv_at hl 4 rfl) ?_
      refine lv_sipush (v := nI 255) X.1 X.2.1 zd_R_change_62 (by decide) ?_
      refine lv_iand X.1 X.2.1 zd_R_change_65 ?_
      refine s_mR_providers X hD hP hS (by omega) zd_R_change_66 (fun H locs hP hS => ?_)
      have hP : va_P K.1 zcl (mW K G (p_mR_providers (p_mR_value (p_mR_thrown σ 0) (vp_updL (mR_value σ) n v)) (upd (mR_providers σ) n (g &&& (nI 255))))) H := hP
      refine lv_iload X.1 X.2.1 zd_R_change_67 (lv_at hl 0 rfl) ?_
      refine lv_if_eq (tgt := 77) X.1 X.2.1 zd_R_change_69 (by decide) (fun h9 => absurd h9 (by decide)) (fun _ => ?_)
      refine lv_aload_n X.1 X.2.1 zd_R_change_72 rfl (lv_at hl 1 rfl) ?_
      refine lv_iload_n X.1 X.2.1 zd_R_change_73 rfl (lv_at hl 2 rfl) ?_
      refine z_callVv (As := [.int (nI n)]) (rest := []) (q0 := 0) (ci := 4) X hml (r_forgetFrom l K G A hD (p_mR_providers (p_mR_value (p_mR_thrown σ 0) (vp_updL (mR_value σ) n v)) (upd (mR_providers σ) n (g &&& (nI 255)))) n (by omega) hB2 hT0) (zk_R_96 X.2.2.2.1 (z_rm (by omega) (by decide))) rfl rfl rfl hP hS rfl hl.1 rfl (Nat.le_of_ble_eq_true rfl) zd_R_change_74 ⟨Nat.zero_le _, Nat.zero_le _⟩ (fun H locs hP hS => ?_)
      refine lv_iconst (v := nI 1) X.1 X.2.1 zd_R_change_77 (by decide) ?_
      exact z_zret X.1 X.2.1 hr hlocks (Or.inr rfl) rfl rfl hP hS zd_R_change_78

set_option maxHeartbeats 4000000 in
set_option maxRecDepth 100000 in
/-- aspect: refused -/
theorem r_aspect_bad (l : Launch) (K : zK) (G : Nat → Nat) (A : Nat → Prop) (hD : ∀ σ, va_D A (mW K G σ)) (σ : mS) (x al w g y : Int32) (hB : mB σ) (h : ¬ ∃ q, q < 4 ∧ x = nI q ∧ ¬ y < -1 ∧ y < nI 10) : zMet l K A zy_R_aspect zws_R_aspect 2 [.ref (G 0), .int x, .int al, .int w, .int g, .int y] (mW K G σ) (mW K G (p_mR_thrown σ 0)) (some (.int (-1))) := by
  have hBo := hB.1
  have hBa := hB.2.1
  refine z_entry (by decide) (Nat.le_of_ble_eq_true rfl) ?_
  intro p e s m below meth c ls X hr hml hlocks hP hl
  have hS : va_S A s.heap s.heap [] := va_S.rf
  have hl : lv_has ls 6 [(0, .ref (G 0)), (1, .int x), (2, .int al), (3, .int w), (4, .int g), (5, .int y)] := hl
  refine lv_aload_n X.1 X.2.1 zd_R_aspect_0 rfl (lv_at hl 0 rfl) ?_
  refine lv_iconst (v := nI 0) X.1 X.2.1 zd_R_aspect_1 (by decide) ?_
  refine s_mR_thrown X hD hP hS zd_R_aspect_2 (fun H locs hP hS => ?_)
  have hP : va_P K.1 zcl (mW K G (p_mR_thrown σ 0)) H := hP
  refine lv_aload_n X.1 X.2.1 zd_R_aspect_5 rfl (lv_at hl 0 rfl) ?_
  refine g_mR_aspects X hP zd_R_aspect_6 ?_
  refine z_top (y := (nI (mR_aspects σ))) rfl ?_
  refine lv_bipush (v := nI 8) X.1 X.2.1 zd_R_aspect_9 (by decide) ?_
  refine lv_icmp_eq (tgt := 36) X.1 X.2.1 zd_R_aspect_11 (by decide) (fun c1 => ?_) (fun c1 => ?_)
  · rw [nI_eq (by omega) (by omega)] at c1
    refine lv_iconst (v := -1) X.1 X.2.1 zd_R_aspect_36 (by decide) ?_
    exact z_iret X.1 X.2.1 hr hlocks rfl rfl hP hS zd_R_aspect_37
  · rw [nI_eq (by omega) (by omega)] at c1
    refine lv_iload_n X.1 X.2.1 zd_R_aspect_14 rfl (lv_at hl 1 rfl) ?_
    refine lv_if_lt (tgt := 36) X.1 X.2.1 zd_R_aspect_15 (by decide) (fun c2 => ?_) (fun c2 => ?_)
    · refine lv_iconst (v := -1) X.1 X.2.1 zd_R_aspect_36 (by decide) ?_
      exact z_iret X.1 X.2.1 hr hlocks rfl rfl hP hS zd_R_aspect_37
    · refine lv_iload_n X.1 X.2.1 zd_R_aspect_18 rfl (lv_at hl 1 rfl) ?_
      refine lv_iconst (v := nI 3) X.1 X.2.1 zd_R_aspect_19 (by decide) ?_
      refine lv_icmp_gt (tgt := 36) X.1 X.2.1 zd_R_aspect_20 (by decide) (fun c3 => ?_) (fun c3 => ?_)
      · refine lv_iconst (v := -1) X.1 X.2.1 zd_R_aspect_36 (by decide) ?_
        exact z_iret X.1 X.2.1 hr hlocks rfl rfl hP hS zd_R_aspect_37
      · obtain ⟨q, hq, rfl⟩ := z_rng2 c2 c3 (by decide)
        refine lv_iload X.1 X.2.1 zd_R_aspect_23 (lv_at hl 5 rfl) ?_
        refine lv_iconst (v := -1) X.1 X.2.1 zd_R_aspect_25 (by decide) ?_
        refine lv_icmp_lt (tgt := 36) X.1 X.2.1 zd_R_aspect_26 (by decide) (fun c4 => ?_) (fun c4 => ?_)
        · refine lv_iconst (v := -1) X.1 X.2.1 zd_R_aspect_36 (by decide) ?_
          exact z_iret X.1 X.2.1 hr hlocks rfl rfl hP hS zd_R_aspect_37
        · refine lv_iload X.1 X.2.1 zd_R_aspect_29 (lv_at hl 5 rfl) ?_
          refine lv_bipush (v := nI 10) X.1 X.2.1 zd_R_aspect_31 (by decide) ?_
          refine lv_icmp_lt (tgt := 38) X.1 X.2.1 zd_R_aspect_33 (by decide) (fun c5 => ?_) (fun c5 => ?_)
          · exact absurd ⟨q, hq, rfl, c4, c5⟩ h
          · refine lv_iconst (v := -1) X.1 X.2.1 zd_R_aspect_36 (by decide) ?_
            exact z_iret X.1 X.2.1 hr hlocks rfl rfl hP hS zd_R_aspect_37

set_option maxHeartbeats 4000000 in
set_option maxRecDepth 100000 in
/-- aspect: full -/
theorem r_aspect_0 (l : Launch) (K : zK) (G : Nat → Nat) (A : Nat → Prop) (hD : ∀ σ, va_D A (mW K G σ)) (σ : mS) (x al w g y : Int32) (hB : mB σ) (ho : mR_aspects σ = 8) : zMet l K A zy_R_aspect zws_R_aspect 2 [.ref (G 0), .int x, .int al, .int w, .int g, .int y] (mW K G σ) (mW K G (p_mR_thrown σ 0)) (some (.int (-1))) := by
  have hBo := hB.1
  have hBa := hB.2.1
  refine z_entry (by decide) (Nat.le_of_ble_eq_true rfl) ?_
  intro p e s m below meth c ls X hr hml hlocks hP hl
  have hS : va_S A s.heap s.heap [] := va_S.rf
  have hl : lv_has ls 6 [(0, .ref (G 0)), (1, .int x), (2, .int al), (3, .int w), (4, .int g), (5, .int y)] := hl
  refine lv_aload_n X.1 X.2.1 zd_R_aspect_0 rfl (lv_at hl 0 rfl) ?_
  refine lv_iconst (v := nI 0) X.1 X.2.1 zd_R_aspect_1 (by decide) ?_
  refine s_mR_thrown X hD hP hS zd_R_aspect_2 (fun H locs hP hS => ?_)
  have hP : va_P K.1 zcl (mW K G (p_mR_thrown σ 0)) H := hP
  refine lv_aload_n X.1 X.2.1 zd_R_aspect_5 rfl (lv_at hl 0 rfl) ?_
  refine g_mR_aspects X hP zd_R_aspect_6 ?_
  refine z_top (y := (nI (mR_aspects σ))) rfl ?_
  refine lv_bipush (v := nI 8) X.1 X.2.1 zd_R_aspect_9 (by decide) ?_
  refine lv_icmp_eq (tgt := 36) X.1 X.2.1 zd_R_aspect_11 (by decide) (fun _ => ?_) (fun h9 => absurd (by rw [nI_eq (by omega) (by omega)]; omega) h9)
  refine lv_iconst (v := -1) X.1 X.2.1 zd_R_aspect_36 (by decide) ?_
  exact z_iret X.1 X.2.1 hr hlocks rfl rfl hP hS zd_R_aspect_37

set_option maxHeartbeats 4000000 in
set_option maxRecDepth 100000 in
/-- aspect: a new one -/
theorem r_aspect_1 (l : Launch) (K : zK) (G : Nat → Nat) (A : Nat → Prop) (hD : ∀ σ, va_D A (mW K G σ)) (σ : mS) (q : Nat) (al w g y : Int32) (hB : mB σ) (hq : q < 4) (h1 : ¬ y < -1) (h2 : y < nI 10) (ho : mR_aspects σ < 8) : zMet l K A zy_R_aspect zws_R_aspect 2 [.ref (G 0), .int (nI q), .int al, .int w, .int g, .int y] (mW K G σ) (mW K G (mOpenA σ q (al &&& nI 7) (w &&& nI 255) (g &&& nI 255) y)) (some (.int (nI (mR_aspects σ)))) := by
  have hBo := hB.1
  have hBa := hB.2.1
  refine z_entry (by decide) (Nat.le_of_ble_eq_true rfl) ?_
  intro p e s m below meth c ls X hr hml hlocks hP hl
  have hS : va_S A s.heap s.heap [] := va_S.rf
  have hl : lv_has ls 6 [(0, .ref (G 0)), (1, .int (nI q)), (2, .int al), (3, .int w), (4, .int g), (5, .int y)] := hl
  refine lv_aload_n X.1 X.2.1 zd_R_aspect_0 rfl (lv_at hl 0 rfl) ?_
  refine lv_iconst (v := nI 0) X.1 X.2.1 zd_R_aspect_1 (by decide) ?_
  refine s_mR_thrown X hD hP hS zd_R_aspect_2 (fun H locs hP hS => ?_)
  have hP : va_P K.1 zcl (mW K G (p_mR_thrown σ 0)) H := hP
  refine lv_aload_n X.1 X.2.1 zd_R_aspect_5 rfl (lv_at hl 0 rfl) ?_
  refine g_mR_aspects X hP zd_R_aspect_6 ?_
  refine z_top (y := (nI (mR_aspects σ))) rfl ?_
  refine lv_bipush (v := nI 8) X.1 X.2.1 zd_R_aspect_9 (by decide) ?_
  refine lv_icmp_eq (tgt := 36) X.1 X.2.1 zd_R_aspect_11 (by decide) (fun h9 => absurd h9 (by rw [nI_eq (by omega) (by omega)]; omega)) (fun _ => ?_)
  refine lv_iload_n X.1 X.2.1 zd_R_aspect_14 rfl (lv_at hl 1 rfl) ?_
  refine lv_if_lt (tgt := 36) X.1 X.2.1 zd_R_aspect_15 (by decide) (fun h9 => absurd h9 (nI_pos (by omega))) (fun _ => ?_)
  refine lv_iload_n X.1 X.2.1 zd_R_aspect_18 rfl (lv_at hl 1 rfl) ?_
  refine lv_iconst (v := nI 3) X.1 X.2.1 zd_R_aspect_19 (by decide) ?_
  refine lv_icmp_gt (tgt := 36) X.1 X.2.1 zd_R_aspect_20 (by decide) (fun h9 => absurd h9 (by rw [nI_ltI (by omega) (by omega)]; omega)) (fun _ => ?_)
  refine lv_iload X.1 X.2.1 zd_R_aspect_23 (lv_at hl 5 rfl) ?_
  refine lv_iconst (v := -1) X.1 X.2.1 zd_R_aspect_25 (by decide) ?_
  refine lv_icmp_lt (tgt := 36) X.1 X.2.1 zd_R_aspect_26 (by decide) (fun h9 => absurd h9 h1) (fun _ => ?_)
  refine lv_iload X.1 X.2.1 zd_R_aspect_29 (lv_at hl 5 rfl) ?_
  refine lv_bipush (v := nI 10) X.1 X.2.1 zd_R_aspect_31 (by decide) ?_
  refine lv_icmp_lt (tgt := 38) X.1 X.2.1 zd_R_aspect_33 (by decide) (fun _ => ?_) (fun h9 => absurd h2 h9)
  refine lv_aload_n X.1 X.2.1 zd_R_aspect_38 rfl (lv_at hl 0 rfl) ?_
  refine g_mR_kind X hP zd_R_aspect_39 ?_
  refine lv_aload_n X.1 X.2.1 zd_R_aspect_42 rfl (lv_at hl 0 rfl) ?_
  refine g_mR_aspects X hP zd_R_aspect_43 ?_
  refine z_top (y := (nI (mR_aspects σ))) rfl ?_
  refine lv_iload_n X.1 X.2.1 zd_R_aspect_46 rfl (lv_at hl 1 rfl) ?_
  refine s_mR_kind X hD hP hS (by omega) zd_R_aspect_47 (fun H locs hP hS => ?_)
  have hP : va_P K.1 zcl (mW K G (p_mR_kind (p_mR_thrown σ 0) (upN (mR_kind σ) (mR_aspects σ) q))) H := hP
  refine lv_aload_n X.1 X.2.1 zd_R_aspect_48 rfl (lv_at hl 0 rfl) ?_
  refine g_mR_along X hP zd_R_aspect_49 ?_
  refine lv_aload_n X.1 X.2.1 zd_R_aspect_52 rfl (lv_at hl 0 rfl) ?_
  refine g_mR_aspects X hP zd_R_aspect_53 ?_
  refine z_top (y := (nI (mR_aspects σ))) rfl ?_
  refine lv_iload_n X.1 X.2.1 zd_R_aspect_56 rfl (lv_at hl 2 rfl) ?_
  refine lv_bipush (v := nI 7) X.1 X.2.1 zd_R_aspect_57 (by decide) ?_
  refine lv_iand X.1 X.2.1 zd_R_aspect_59 ?_
  refine s_mR_along X hD hP hS (by omega) zd_R_aspect_60 (fun H locs hP hS => ?_)
  have hP : va_P K.1 zcl (mW K G (p_mR_along (p_mR_kind (p_mR_thrown σ 0) (upN (mR_kind σ) (mR_aspects σ) q)) (upd (mR_along σ) (mR_aspects σ) (al &&& (nI 7))))) H := hP
  refine lv_aload_n X.1 X.2.1 zd_R_aspect_61 rfl (lv_at hl 0 rfl) ?_
  refine g_mR_wants X hP zd_R_aspect_62 ?_
  refine lv_aload_n X.1 X.2.1 zd_R_aspect_65 rfl (lv_at hl 0 rfl) ?_
  refine g_mR_aspects X hP zd_R_aspect_66 ?_
  refine z_top (y := (nI (mR_aspects σ))) rfl ?_
  refine lv_iload_n X.1 X.2.1 zd_R_aspect_69 rfl (lv_at hl 3 rfl) ?_
  refine lv_sipush (v := nI 255) X.1 X.2.1 zd_R_aspect_70 (by decide) ?_
  refine lv_iand X.1 X.2.1 zd_R_aspect_73 ?_
  refine s_mR_wants X hD hP hS (by omega) zd_R_aspect_74 (fun H locs hP hS => ?_)
  have hP : va_P K.1 zcl (mW K G (p_mR_wants (p_mR_along (p_mR_kind (p_mR_thrown σ 0) (upN (mR_kind σ) (mR_aspects σ) q)) (upd (mR_along σ) (mR_aspects σ) (al &&& (nI 7)))) (upd (mR_wants σ) (mR_aspects σ) (w &&& (nI 255))))) H := hP
  refine lv_aload_n X.1 X.2.1 zd_R_aspect_75 rfl (lv_at hl 0 rfl) ?_
  refine g_mR_gives X hP zd_R_aspect_76 ?_
  refine lv_aload_n X.1 X.2.1 zd_R_aspect_79 rfl (lv_at hl 0 rfl) ?_
  refine g_mR_aspects X hP zd_R_aspect_80 ?_
  refine z_top (y := (nI (mR_aspects σ))) rfl ?_
  refine lv_iload X.1 X.2.1 zd_R_aspect_83 (lv_at hl 4 rfl) ?_
  refine lv_sipush (v := nI 255) X.1 X.2.1 zd_R_aspect_85 (by decide) ?_
  refine lv_iand X.1 X.2.1 zd_R_aspect_88 ?_
  refine s_mR_gives X hD hP hS (by omega) zd_R_aspect_89 (fun H locs hP hS => ?_)
  have hP : va_P K.1 zcl (mW K G (p_mR_gives (p_mR_wants (p_mR_along (p_mR_kind (p_mR_thrown σ 0) (upN (mR_kind σ) (mR_aspects σ) q)) (upd (mR_along σ) (mR_aspects σ) (al &&& (nI 7)))) (upd (mR_wants σ) (mR_aspects σ) (w &&& (nI 255)))) (upd (mR_gives σ) (mR_aspects σ) (g &&& (nI 255))))) H := hP
  refine lv_aload_n X.1 X.2.1 zd_R_aspect_90 rfl (lv_at hl 0 rfl) ?_
  refine g_mR_nameOf X hP zd_R_aspect_91 ?_
  refine lv_aload_n X.1 X.2.1 zd_R_aspect_94 rfl (lv_at hl 0 rfl) ?_
  refine g_mR_aspects X hP zd_R_aspect_95 ?_
  refine z_top (y := (nI (mR_aspects σ))) rfl ?_
  refine lv_iload X.1 X.2.1 zd_R_aspect_98 (lv_at hl 5 rfl) ?_
  refine s_mR_nameOf X hD hP hS (by omega) zd_R_aspect_100 (fun H locs hP hS => ?_)
  have hP : va_P K.1 zcl (mW K G (p_mR_nameOf (p_mR_gives (p_mR_wants (p_mR_along (p_mR_kind (p_mR_thrown σ 0) (upN (mR_kind σ) (mR_aspects σ) q)) (upd (mR_along σ) (mR_aspects σ) (al &&& (nI 7)))) (upd (mR_wants σ) (mR_aspects σ) (w &&& (nI 255)))) (upd (mR_gives σ) (mR_aspects σ) (g &&& (nI 255)))) (upd (mR_nameOf σ) (mR_aspects σ) y))) H := hP
  refine lv_aload_n X.1 X.2.1 zd_R_aspect_101 rfl (lv_at hl 0 rfl) ?_
  refine lv_dup X.1 X.2.1 zd_R_aspect_102 rfl ?_
  refine g_mR_aspects X hP zd_R_aspect_103 ?_
  refine z_top (y := (nI (mR_aspects σ))) rfl ?_
  refine lv_iconst (v := nI 1) X.1 X.2.1 zd_R_aspect_106 (by decide) ?_
  refine lv_iadd X.1 X.2.1 zd_R_aspect_107 ?_
  refine z_top (nI_add _ _) ?_
  refine s_mR_aspects X hD hP hS zd_R_aspect_108 (fun H locs hP hS => ?_)
  have hP : va_P K.1 zcl (mW K G (p_mR_aspects (p_mR_nameOf (p_mR_gives (p_mR_wants (p_mR_along (p_mR_kind (p_mR_thrown σ 0) (upN (mR_kind σ) (mR_aspects σ) q)) (upd (mR_along σ) (mR_aspects σ) (al &&& (nI 7)))) (upd (mR_wants σ) (mR_aspects σ) (w &&& (nI 255)))) (upd (mR_gives σ) (mR_aspects σ) (g &&& (nI 255)))) (upd (mR_nameOf σ) (mR_aspects σ) y)) ((mR_aspects σ) + 1))) H := hP
  refine lv_aload_n X.1 X.2.1 zd_R_aspect_111 rfl (lv_at hl 0 rfl) ?_
  refine g_mR_aspects X hP zd_R_aspect_112 ?_
  refine z_top (y := (nI ((mR_aspects σ) + 1))) rfl ?_
  refine lv_iconst (v := nI 1) X.1 X.2.1 zd_R_aspect_115 (by decide) ?_
  refine lv_isub X.1 X.2.1 zd_R_aspect_116 ?_
  refine z_top (pk_sub (by omega)) ?_
  exact z_iret X.1 X.2.1 hr hlocks rfl rfl hP hS zd_R_aspect_117

set_option maxHeartbeats 4000000 in
set_option maxRecDepth 100000 in
/-- hasNeed's loop -/
theorem q_R_hasNeed {p : Program} {e : Env} {s : State} {m : MethodId} {args : Array Value} {below : List Frame} {meth : Method} {c : Code} (l : Launch) (K : zK) (G : Nat → Nat) (A : Nat → Prop) (hD : ∀ σ, va_D A (mW K G σ)) (X : zFx K zR_R zb_R_hasNeed p s m args c) (hr : meth.sig.returnType = (some .boolean)) (hml : c.maxLocals = 5) (hlocks : meth.locks = false) (σ : mS) (a b : Nat) (ha : a < 8) (hb : b < 8) (hB : mB σ) : ∀ (j i : Nat), i + j = mR_needMany σ a → ∀ (H : Heap) (locs : List Loc) (ls : Array Slot), va_P K.1 zcl (mW K G σ) H → va_S A s.heap H locs → lv_has ls 5 [(4, .int (nI i)), (3, .int (nI (mNd σ a b i))), (0, .ref (G 0)), (1, .int (nI a)), (2, .int (nI b))] → W p l e (zrm 0) s m args below meth c H locs 0 0 (MQ below (zPost K A (mW K G σ) (some (.int (nI (mHN σ a b))))) args s 0 0 A) (F0 m 5 ls []) := by
  intro j
  induction j with
  | zero =>
    intro i hi H locs ls hP hS hl
    have hle := mNd_le σ a b i
    have h3 := hB.2.2.2.2.2.2.1 a
    have h8 := hB.2.2.2.2.2.1 (3 * a + i)
    refine lv_iload X.1 X.2.1 zd_R_hasNeed_5 (lv_at hl 0 rfl) ?_
    refine lv_aload_n X.1 X.2.1 zd_R_hasNeed_7 rfl (lv_at hl 2 rfl) ?_
    refine g_mR_needMany X hP zd_R_hasNeed_8 ?_
    refine lv_iload_n X.1 X.2.1 zd_R_hasNeed_11 rfl (lv_at hl 3 rfl) ?_
    refine l_mR_needMany X hP (by omega) zd_R_hasNeed_12 ?_
    refine lv_icmp_ge (tgt := 47) X.1 X.2.1 zd_R_hasNeed_13 (by decide) (fun _ => ?_) (fun h9 => absurd (by rw [nI_leI (by omega) (by omega)]; omega) h9)
    refine lv_iload_n X.1 X.2.1 zd_R_hasNeed_47 rfl (lv_at hl 1 rfl) ?_
    exact z_zret X.1 X.2.1 hr hlocks (by rcases (show mNd σ a b i = 0 ∨ mNd σ a b i = 1 by omega) with h9 | h9 <;> rw [h9] <;> decide) (by rw [mHN, show mR_needMany σ a = i by omega]) rfl hP hS zd_R_hasNeed_48
  | succ j ih =>
    intro i hi H locs ls hP hS hl
    have hle := mNd_le σ a b i
    have h3 := hB.2.2.2.2.2.2.1 a
    have h8 := hB.2.2.2.2.2.1 (3 * a + i)
    refine lv_iload X.1 X.2.1 zd_R_hasNeed_5 (lv_at hl 0 rfl) ?_
    refine lv_aload_n X.1 X.2.1 zd_R_hasNeed_7 rfl (lv_at hl 2 rfl) ?_
    refine g_mR_needMany X hP zd_R_hasNeed_8 ?_
    refine lv_iload_n X.1 X.2.1 zd_R_hasNeed_11 rfl (lv_at hl 3 rfl) ?_
    refine l_mR_needMany X hP (by omega) zd_R_hasNeed_12 ?_
    refine lv_icmp_ge (tgt := 47) X.1 X.2.1 zd_R_hasNeed_13 (by decide) (fun h9 => absurd h9 (by rw [nI_leI (by omega) (by omega)]; omega)) (fun _ => ?_)
    refine lv_iload_n X.1 X.2.1 zd_R_hasNeed_16 rfl (lv_at hl 1 rfl) ?_
    refine lv_if_ne (tgt := 35) X.1 X.2.1 zd_R_hasNeed_17 (by decide) (fun c1 => ?_) (fun c1 => ?_)
    · rw [z_eq0 (mNd_lt _ _ _ _)] at c1
      refine lv_iconst (v := nI 1) X.1 X.2.1 zd_R_hasNeed_35 (by decide) ?_
      refine lv_goto (tgt := 40) X.1 X.2.1 zd_R_hasNeed_36 (by decide) ?_
      refine lv_istore_n (lv' := [(3, .int (nI 1)), (4, .int (nI i)), (0, .ref (G 0)), (1, .int (nI a)), (2, .int (nI b))]) X.1 X.2.1 zd_R_hasNeed_40 rfl hl (by decide) rfl (fun ls hl => ?_)
      refine lv_iinc (v := nI (i + 1)) (lv' := [(4, .int (nI (i + 1))), (3, .int (nI 1)), (0, .ref (G 0)), (1, .int (nI a)), (2, .int (nI b))]) X.1 X.2.1 zd_R_hasNeed_41 hl (k := 1) rfl (nI_1 _) (by decide) rfl (fun ls hl => ?_)
      refine lv_goto (tgt := 5) X.1 X.2.1 zd_R_hasNeed_44 (by decide) ?_
      exact ih (i + 1) (by omega) H locs ls hP hS (by rw [show mNd σ a b (i + 1) = 1 from (by rw [mNd]; simp [*])]; exact lv_sub hl [0, 1, 2, 3, 4] rfl)
    · rw [z_eq0 (mNd_lt _ _ _ _)] at c1
      refine lv_aload_n X.1 X.2.1 zd_R_hasNeed_20 rfl (lv_at hl 2 rfl) ?_
      refine g_mR_needs X hP zd_R_hasNeed_21 ?_
      refine lv_iconst (v := nI 3) X.1 X.2.1 zd_R_hasNeed_24 (by decide) ?_
      refine lv_iload_n X.1 X.2.1 zd_R_hasNeed_25 rfl (lv_at hl 3 rfl) ?_
      refine lv_imul X.1 X.2.1 zd_R_hasNeed_26 ?_
      refine z_top (pk_mul _ _) ?_
      refine lv_iload X.1 X.2.1 zd_R_hasNeed_27 (lv_at hl 0 rfl) ?_
      refine lv_iadd X.1 X.2.1 zd_R_hasNeed_29 ?_
      refine z_top (nI_add _ _) ?_
      refine l_mR_needs X hP (by omega) zd_R_hasNeed_30 ?_
      refine lv_iload_n X.1 X.2.1 zd_R_hasNeed_31 rfl (lv_at hl 4 rfl) ?_
      refine lv_icmp_ne (tgt := 39) X.1 X.2.1 zd_R_hasNeed_32 (by decide) (fun c2 => ?_) (fun c2 => ?_)
      · rw [nI_eq (by omega) (by omega)] at c2
        refine lv_iconst (v := nI 0) X.1 X.2.1 zd_R_hasNeed_39 (by decide) ?_
        refine lv_istore_n (lv' := [(3, .int (nI 0)), (4, .int (nI i)), (0, .ref (G 0)), (1, .int (nI a)), (2, .int (nI b))]) X.1 X.2.1 zd_R_hasNeed_40 rfl hl (by decide) rfl (fun ls hl => ?_)
        refine lv_iinc (v := nI (i + 1)) (lv' := [(4, .int (nI (i + 1))), (3, .int (nI 0)), (0, .ref (G 0)), (1, .int (nI a)), (2, .int (nI b))]) X.1 X.2.1 zd_R_hasNeed_41 hl (k := 1) rfl (nI_1 _) (by decide) rfl (fun ls hl => ?_)
        refine lv_goto (tgt := 5) X.1 X.2.1 zd_R_hasNeed_44 (by decide) ?_
        exact ih (i + 1) (by omega) H locs ls hP hS (by rw [show mNd σ a b (i + 1) = 0 from (by rw [mNd]; simp [*])]; exact lv_sub hl [0, 1, 2, 3, 4] rfl)
      · rw [nI_eq (by omega) (by omega)] at c2
        refine lv_iconst (v := nI 1) X.1 X.2.1 zd_R_hasNeed_35 (by decide) ?_
        refine lv_goto (tgt := 40) X.1 X.2.1 zd_R_hasNeed_36 (by decide) ?_
        refine lv_istore_n (lv' := [(3, .int (nI 1)), (4, .int (nI i)), (0, .ref (G 0)), (1, .int (nI a)), (2, .int (nI b))]) X.1 X.2.1 zd_R_hasNeed_40 rfl hl (by decide) rfl (fun ls hl => ?_)
        refine lv_iinc (v := nI (i + 1)) (lv' := [(4, .int (nI (i + 1))), (3, .int (nI 1)), (0, .ref (G 0)), (1, .int (nI a)), (2, .int (nI b))]) X.1 X.2.1 zd_R_hasNeed_41 hl (k := 1) rfl (nI_1 _) (by decide) rfl (fun ls hl => ?_)
        refine lv_goto (tgt := 5) X.1 X.2.1 zd_R_hasNeed_44 (by decide) ?_
        exact ih (i + 1) (by omega) H locs ls hP hS (by rw [show mNd σ a b (i + 1) = 1 from (by rw [mNd]; simp [*])]; exact lv_sub hl [0, 1, 2, 3, 4] rfl)

set_option maxHeartbeats 4000000 in
set_option maxRecDepth 100000 in
/-- hasNeed(a, b) -/
theorem r_hasNeed (l : Launch) (K : zK) (G : Nat → Nat) (A : Nat → Prop) (hD : ∀ σ, va_D A (mW K G σ)) (σ : mS) (a b : Nat) (ha : a < 8) (hb : b < 8) (hB : mB σ) : zMet l K A zy_R_hasNeed zws_R_hasNeed 0 [.ref (G 0), .int (nI a), .int (nI b)] (mW K G σ) (mW K G σ) (some (.int (nI (mHN σ a b)))) := by
  refine z_entry (by decide) (Nat.le_of_ble_eq_true rfl) ?_
  intro p e s m below meth c ls X hr hml hlocks hP hl
  have hS : va_S A s.heap s.heap [] := va_S.rf
  have hl : lv_has ls 5 [(0, .ref (G 0)), (1, .int (nI a)), (2, .int (nI b))] := hl
  refine lv_iconst (v := nI 0) X.1 X.2.1 zd_R_hasNeed_0 (by decide) ?_
  refine lv_istore_n (lv' := [(3, .int (nI 0)), (0, .ref (G 0)), (1, .int (nI a)), (2, .int (nI b))]) X.1 X.2.1 zd_R_hasNeed_1 rfl hl (by decide) rfl (fun ls hl => ?_)
  refine lv_iconst (v := nI 0) X.1 X.2.1 zd_R_hasNeed_2 (by decide) ?_
  refine lv_istore (lv' := [(4, .int (nI 0)), (3, .int (nI 0)), (0, .ref (G 0)), (1, .int (nI a)), (2, .int (nI b))]) X.1 X.2.1 zd_R_hasNeed_3 hl (by decide) rfl (fun ls hl => ?_)
  exact q_R_hasNeed l K G A hD X hr hml hlocks σ a b ha hb hB (mR_needMany σ a) 0 (Nat.zero_add _) s.heap [] ls hP hS (lv_sub hl [0, 1, 2, 3, 4] rfl)

set_option maxHeartbeats 4000000 in
set_option maxRecDepth 100000 in
/-- neederBits' innermost loop -/
theorem q_R_neederBits_c {p : Program} {e : Env} {s : State} {m : MethodId} {args : Array Value} {below : List Frame} {meth : Method} {c : Code} {Q : State → Prop} (l : Launch) (K : zK) (G : Nat → Nat) (A : Nat → Prop) (hD : ∀ σ, va_D A (mW K G σ)) (X : zFx K zR_R zb_R_neederBits p s m args c) (hr : meth.sig.returnType = (some .int)) (hml : c.maxLocals = 6) (hlocks : meth.locks = false) (σ : mS) (a b r : Nat) (x : Int32) (hb : b < mR_aspects σ) (hB : mB σ) (kont : ∀ (H : Heap) (locs : List Loc) (ls : Array Slot), va_P K.1 zcl (mW K G σ) H → va_S A s.heap H locs → lv_has ls 6 [(2, .int (mBc σ b x (mR_aspects σ))), (4, .int (nI b)), (3, .int (nI r)), (0, .ref (G 0)), (1, .int (nI a))] → W p l e (zrm 1) s m args below meth c H locs 0 0 Q (F0 m 74 ls [])) : ∀ (j i : Nat), i + j = mR_aspects σ → ∀ (H : Heap) (locs : List Loc) (ls : Array Slot), va_P K.1 zcl (mW K G σ) H → va_S A s.heap H locs → lv_has ls 6 [(5, .int (nI i)), (2, .int (mBc σ b x i)), (4, .int (nI b)), (3, .int (nI r)), (0, .ref (G 0)), (1, .int (nI a))] → W p l e (zrm 1) s m args below meth c H locs 0 0 Q (F0 m 27 ls []) := by
  intro j
  induction j with
  | zero =>
    intro i hi H locs ls hP hS hl
    have h8 := hB.2.1
    refine lv_iload X.1 X.2.1 zd_R_neederBits_27 (lv_at hl 0 rfl) ?_
    refine lv_aload_n X.1 X.2.1 zd_R_neederBits_29 rfl (lv_at hl 4 rfl) ?_
    refine g_mR_aspects X hP zd_R_neederBits_30 ?_
    refine lv_icmp_ge (tgt := 74) X.1 X.2.1 zd_R_neederBits_33 (by decide) (fun _ => ?_) (fun h9 => absurd (by rw [nI_leI (by omega) (by omega)]; omega) h9)
    exact kont H locs ls hP hS (by have h9 := hl; rw [show i = mR_aspects σ by omega] at h9; exact lv_sub h9 [1, 2, 3, 4, 5] rfl)
  | succ j ih =>
    intro i hi H locs ls hP hS hl
    have h8 := hB.2.1
    refine lv_iload X.1 X.2.1 zd_R_neederBits_27 (lv_at hl 0 rfl) ?_
    refine lv_aload_n X.1 X.2.1 zd_R_neederBits_29 rfl (lv_at hl 4 rfl) ?_
    refine g_mR_aspects X hP zd_R_neederBits_30 ?_
    refine lv_icmp_ge (tgt := 74) X.1 X.2.1 zd_R_neederBits_33 (by decide) (fun h9 => absurd h9 (by rw [nI_leI (by omega) (by omega)]; omega)) (fun _ => ?_)
    refine lv_iload_n X.1 X.2.1 zd_R_neederBits_36 rfl (lv_at hl 1 rfl) ?_
    refine lv_aload_n X.1 X.2.1 zd_R_neederBits_37 rfl (lv_at hl 4 rfl) ?_
    refine lv_iload X.1 X.2.1 zd_R_neederBits_38 (lv_at hl 2 rfl) ?_
    refine lv_iload X.1 X.2.1 zd_R_neederBits_40 (lv_at hl 0 rfl) ?_
    refine z_callVi (As := [.int (nI b), .int (nI i)]) (rest := [.int (mBc σ b x i)]) (q0 := 0) (ci := 4) X hml (r_hasNeed l K G A hD σ b i (by omega) (by omega) hB) (zk_R_99 X.2.2.2.1 (z_rm (by omega) (by decide))) rfl rfl rfl hP hS rfl hl.1 rfl (Nat.le_of_ble_eq_true rfl) zd_R_neederBits_42 ⟨Nat.zero_le _, Nat.zero_le _⟩ (fun H locs hP hS => ?_)
    refine lv_if_eq (tgt := 65) X.1 X.2.1 zd_R_neederBits_45 (by decide) (fun c1 => ?_) (fun c1 => ?_)
    · rw [z_eq0 (mHN_lt _ _ _)] at c1
      refine lv_iconst (v := nI 0) X.1 X.2.1 zd_R_neederBits_65 (by decide) ?_
      refine lv_ior X.1 X.2.1 zd_R_neederBits_66 ?_
      refine lv_istore_n (lv' := [(2, .int ((mBc σ b x i) ||| (nI 0))), (5, .int (nI i)), (4, .int (nI b)), (3, .int (nI r)), (0, .ref (G 0)), (1, .int (nI a))]) X.1 X.2.1 zd_R_neederBits_67 rfl hl (by decide) rfl (fun ls hl => ?_)
      refine lv_iinc (v := nI (i + 1)) (lv' := [(5, .int (nI (i + 1))), (2, .int ((mBc σ b x i) ||| (nI 0))), (4, .int (nI b)), (3, .int (nI r)), (0, .ref (G 0)), (1, .int (nI a))]) X.1 X.2.1 zd_R_neederBits_68 hl (k := 1) rfl (nI_1 _) (by decide) rfl (fun ls hl => ?_)
      refine lv_goto (tgt := 27) X.1 X.2.1 zd_R_neederBits_71 (by decide) ?_
      exact ih (i + 1) (by omega) H locs ls hP hS (by rw [show mBc σ b x (i + 1) = (mBc σ b x i) ||| (nI 0) from (by rw [mBc]; simp [*])]; exact lv_sub hl [0, 1, 2, 3, 4, 5] rfl)
    · rw [z_eq0 (mHN_lt _ _ _)] at c1
      refine lv_iload_n X.1 X.2.1 zd_R_neederBits_48 rfl (lv_at hl 1 rfl) ?_
      refine lv_iload X.1 X.2.1 zd_R_neederBits_49 (lv_at hl 0 rfl) ?_
      refine lv_ishr X.1 X.2.1 zd_R_neederBits_51 ?_
      refine lv_iconst (v := nI 1) X.1 X.2.1 zd_R_neederBits_52 (by decide) ?_
      refine lv_iand X.1 X.2.1 zd_R_neederBits_53 ?_
      refine lv_iconst (v := nI 1) X.1 X.2.1 zd_R_neederBits_54 (by decide) ?_
      refine lv_icmp_ne (tgt := 65) X.1 X.2.1 zd_R_neederBits_55 (by decide) (fun c2 => ?_) (fun c2 => ?_)
      · refine lv_iconst (v := nI 0) X.1 X.2.1 zd_R_neederBits_65 (by decide) ?_
        refine lv_ior X.1 X.2.1 zd_R_neederBits_66 ?_
        refine lv_istore_n (lv' := [(2, .int ((mBc σ b x i) ||| (nI 0))), (5, .int (nI i)), (4, .int (nI b)), (3, .int (nI r)), (0, .ref (G 0)), (1, .int (nI a))]) X.1 X.2.1 zd_R_neederBits_67 rfl hl (by decide) rfl (fun ls hl => ?_)
        refine lv_iinc (v := nI (i + 1)) (lv' := [(5, .int (nI (i + 1))), (2, .int ((mBc σ b x i) ||| (nI 0))), (4, .int (nI b)), (3, .int (nI r)), (0, .ref (G 0)), (1, .int (nI a))]) X.1 X.2.1 zd_R_neederBits_68 hl (k := 1) rfl (nI_1 _) (by decide) rfl (fun ls hl => ?_)
        refine lv_goto (tgt := 27) X.1 X.2.1 zd_R_neederBits_71 (by decide) ?_
        exact ih (i + 1) (by omega) H locs ls hP hS (by rw [show mBc σ b x (i + 1) = (mBc σ b x i) ||| (nI 0) from (by rw [mBc]; simp [*])]; exact lv_sub hl [0, 1, 2, 3, 4, 5] rfl)
      · refine lv_iconst (v := nI 1) X.1 X.2.1 zd_R_neederBits_58 (by decide) ?_
        refine lv_iload X.1 X.2.1 zd_R_neederBits_59 (lv_at hl 2 rfl) ?_
        refine lv_ishl X.1 X.2.1 zd_R_neederBits_61 ?_
        refine lv_goto (tgt := 66) X.1 X.2.1 zd_R_neederBits_62 (by decide) ?_
        refine lv_ior X.1 X.2.1 zd_R_neederBits_66 ?_
        refine lv_istore_n (lv' := [(2, .int ((mBc σ b x i) ||| ((nI 1) <<< ((nI b) &&& 31)))), (5, .int (nI i)), (4, .int (nI b)), (3, .int (nI r)), (0, .ref (G 0)), (1, .int (nI a))]) X.1 X.2.1 zd_R_neederBits_67 rfl hl (by decide) rfl (fun ls hl => ?_)
        refine lv_iinc (v := nI (i + 1)) (lv' := [(5, .int (nI (i + 1))), (2, .int ((mBc σ b x i) ||| ((nI 1) <<< ((nI b) &&& 31)))), (4, .int (nI b)), (3, .int (nI r)), (0, .ref (G 0)), (1, .int (nI a))]) X.1 X.2.1 zd_R_neederBits_68 hl (k := 1) rfl (nI_1 _) (by decide) rfl (fun ls hl => ?_)
        refine lv_goto (tgt := 27) X.1 X.2.1 zd_R_neederBits_71 (by decide) ?_
        exact ih (i + 1) (by omega) H locs ls hP hS (by rw [show mBc σ b x (i + 1) = (mBc σ b x i) ||| ((nI 1) <<< ((nI b) &&& 31)) from (by rw [mBc]; simp [*])]; exact lv_sub hl [0, 1, 2, 3, 4, 5] rfl)

set_option maxHeartbeats 4000000 in
set_option maxRecDepth 100000 in
/-- neederBits' second loop -/
theorem q_R_neederBits_b {p : Program} {e : Env} {s : State} {m : MethodId} {args : Array Value} {below : List Frame} {meth : Method} {c : Code} {Q : State → Prop} (l : Launch) (K : zK) (G : Nat → Nat) (A : Nat → Prop) (hD : ∀ σ, va_D A (mW K G σ)) (X : zFx K zR_R zb_R_neederBits p s m args c) (hr : meth.sig.returnType = (some .int)) (hml : c.maxLocals = 6) (hlocks : meth.locks = false) (σ : mS) (a r : Nat) (x : Int32) (hB : mB σ) (kont : ∀ (H : Heap) (locs : List Loc) (ls : Array Slot), va_P K.1 zcl (mW K G σ) H → va_S A s.heap H locs → lv_has ls 6 [(2, .int (mBb σ x (mR_aspects σ))), (3, .int (nI r)), (0, .ref (G 0)), (1, .int (nI a))] → W p l e (zrm 1) s m args below meth c H locs 0 0 Q (F0 m 80 ls [])) : ∀ (j b : Nat), b + j = mR_aspects σ → ∀ (H : Heap) (locs : List Loc) (ls : Array Slot), va_P K.1 zcl (mW K G σ) H → va_S A s.heap H locs → lv_has ls 6 [(4, .int (nI b)), (2, .int (mBb σ x b)), (3, .int (nI r)), (0, .ref (G 0)), (1, .int (nI a))] → W p l e (zrm 1) s m args below meth c H locs 0 0 Q (F0 m 15 ls []) := by
  intro j
  induction j with
  | zero =>
    intro b hi H locs ls hP hS hl
    have h8 := hB.2.1
    refine lv_iload X.1 X.2.1 zd_R_neederBits_15 (lv_at hl 0 rfl) ?_
    refine lv_aload_n X.1 X.2.1 zd_R_neederBits_17 rfl (lv_at hl 3 rfl) ?_
    refine g_mR_aspects X hP zd_R_neederBits_18 ?_
    refine lv_icmp_ge (tgt := 80) X.1 X.2.1 zd_R_neederBits_21 (by decide) (fun _ => ?_) (fun h9 => absurd (by rw [nI_leI (by omega) (by omega)]; omega) h9)
    exact kont H locs ls hP hS (by have h9 := hl; rw [show b = mR_aspects σ by omega] at h9; exact lv_sub h9 [1, 2, 3, 4] rfl)
  | succ j ih =>
    intro b hi H locs ls hP hS hl
    have h8 := hB.2.1
    refine lv_iload X.1 X.2.1 zd_R_neederBits_15 (lv_at hl 0 rfl) ?_
    refine lv_aload_n X.1 X.2.1 zd_R_neederBits_17 rfl (lv_at hl 3 rfl) ?_
    refine g_mR_aspects X hP zd_R_neederBits_18 ?_
    refine lv_icmp_ge (tgt := 80) X.1 X.2.1 zd_R_neederBits_21 (by decide) (fun h9 => absurd h9 (by rw [nI_leI (by omega) (by omega)]; omega)) (fun _ => ?_)
    refine lv_iconst (v := nI 0) X.1 X.2.1 zd_R_neederBits_24 (by decide) ?_
    refine lv_istore (lv' := [(5, .int (nI 0)), (4, .int (nI b)), (2, .int (mBb σ x b)), (3, .int (nI r)), (0, .ref (G 0)), (1, .int (nI a))]) X.1 X.2.1 zd_R_neederBits_25 hl (by decide) rfl (fun ls hl => ?_)
    refine q_R_neederBits_c l K G A hD X hr hml hlocks σ a b r _ (by omega) hB (fun H locs ls hP hS hl => ?_) (mR_aspects σ) 0 (Nat.zero_add _) H locs ls hP hS (lv_sub hl [0, 2, 1, 3, 4, 5] rfl)
    refine lv_iinc (v := nI (b + 1)) (lv' := [(4, .int (nI (b + 1))), (2, .int (mBc σ b (mBb σ x b) (mR_aspects σ))), (3, .int (nI r)), (0, .ref (G 0)), (1, .int (nI a))]) X.1 X.2.1 zd_R_neederBits_74 hl (k := 1) rfl (nI_1 _) (by decide) rfl (fun ls hl => ?_)
    refine lv_goto (tgt := 15) X.1 X.2.1 zd_R_neederBits_77 (by decide) ?_
    exact ih (b + 1) (by omega) H locs ls hP hS (lv_sub hl [0, 1, 2, 3, 4] rfl)

set_option maxHeartbeats 4000000 in
set_option maxRecDepth 100000 in
/-- neederBits' outer loop -/
theorem q_R_neederBits_r {p : Program} {e : Env} {s : State} {m : MethodId} {args : Array Value} {below : List Frame} {meth : Method} {c : Code} (l : Launch) (K : zK) (G : Nat → Nat) (A : Nat → Prop) (hD : ∀ σ, va_D A (mW K G σ)) (X : zFx K zR_R zb_R_neederBits p s m args c) (hr : meth.sig.returnType = (some .int)) (hml : c.maxLocals = 6) (hlocks : meth.locks = false) (σ : mS) (a : Nat) (x : Int32) (hB : mB σ) : ∀ (j r : Nat), r + j = 8 → ∀ (H : Heap) (locs : List Loc) (ls : Array Slot), va_P K.1 zcl (mW K G σ) H → va_S A s.heap H locs → lv_has ls 6 [(3, .int (nI r)), (2, .int (mBr σ x r)), (0, .ref (G 0)), (1, .int (nI a))] → W p l e (zrm 1) s m args below meth c H locs 0 0 (MQ below (zPost K A (mW K G σ) (some (.int (mBr σ x 8)))) args s 0 0 A) (F0 m 6 ls []) := by
  intro j
  induction j with
  | zero =>
    intro r hi H locs ls hP hS hl
    refine lv_iload_n X.1 X.2.1 zd_R_neederBits_6 rfl (lv_at hl 0 rfl) ?_
    refine lv_bipush (v := nI 8) X.1 X.2.1 zd_R_neederBits_7 (by decide) ?_
    refine lv_icmp_ge (tgt := 86) X.1 X.2.1 zd_R_neederBits_9 (by decide) (fun _ => ?_) (fun h9 => absurd (by rw [nI_leI (by omega) (by omega)]; omega) h9)
    refine lv_iload_n X.1 X.2.1 zd_R_neederBits_86 rfl (lv_at hl 1 rfl) ?_
    exact z_iret X.1 X.2.1 hr hlocks (by rw [show r = 8 by omega]) rfl hP hS zd_R_neederBits_87
  | succ j ih =>
    intro r hi H locs ls hP hS hl
    refine lv_iload_n X.1 X.2.1 zd_R_neederBits_6 rfl (lv_at hl 0 rfl) ?_
    refine lv_bipush (v := nI 8) X.1 X.2.1 zd_R_neederBits_7 (by decide) ?_
    refine lv_icmp_ge (tgt := 86) X.1 X.2.1 zd_R_neederBits_9 (by decide) (fun h9 => absurd h9 (by rw [nI_leI (by omega) (by omega)]; omega)) (fun _ => ?_)
    refine lv_iconst (v := nI 0) X.1 X.2.1 zd_R_neederBits_12 (by decide) ?_
    refine lv_istore (lv' := [(4, .int (nI 0)), (3, .int (nI r)), (2, .int (mBr σ x r)), (0, .ref (G 0)), (1, .int (nI a))]) X.1 X.2.1 zd_R_neederBits_13 hl (by decide) rfl (fun ls hl => ?_)
    refine q_R_neederBits_b l K G A hD X hr hml hlocks σ a r _ hB (fun H locs ls hP hS hl => ?_) (mR_aspects σ) 0 (Nat.zero_add _) H locs ls hP hS (lv_sub hl [0, 2, 1, 3, 4] rfl)
    refine lv_iinc (v := nI (r + 1)) (lv' := [(3, .int (nI (r + 1))), (2, .int (mBb σ (mBr σ x r) (mR_aspects σ))), (0, .ref (G 0)), (1, .int (nI a))]) X.1 X.2.1 zd_R_neederBits_80 hl (k := 1) rfl (nI_1 _) (by decide) rfl (fun ls hl => ?_)
    refine lv_goto (tgt := 6) X.1 X.2.1 zd_R_neederBits_83 (by decide) ?_
    exact ih (r + 1) (by omega) H locs ls hP hS (lv_sub hl [0, 1, 2, 3] rfl)

set_option maxHeartbeats 4000000 in
set_option maxRecDepth 100000 in
/-- neederBits(a) -/
theorem r_neederBits (l : Launch) (K : zK) (G : Nat → Nat) (A : Nat → Prop) (hD : ∀ σ, va_D A (mW K G σ)) (σ : mS) (a : Nat) (hB : mB σ) : zMet l K A zy_R_neederBits zws_R_neederBits 1 [.ref (G 0), .int (nI a)] (mW K G σ) (mW K G σ) (some (.int (mBits σ a))) := by
  refine z_entry (by decide) (Nat.le_of_ble_eq_true rfl) ?_
  intro p e s m below meth c ls X hr hml hlocks hP hl
  have hS : va_S A s.heap s.heap [] := va_S.rf
  have hl : lv_has ls 6 [(0, .ref (G 0)), (1, .int (nI a))] := hl
  refine lv_iconst (v := nI 1) X.1 X.2.1 zd_R_neederBits_0 (by decide) ?_
  refine lv_iload_n X.1 X.2.1 zd_R_neederBits_1 rfl (lv_at hl 1 rfl) ?_
  refine lv_ishl X.1 X.2.1 zd_R_neederBits_2 ?_
  refine lv_istore_n (lv' := [(2, .int ((nI 1) <<< ((nI a) &&& 31))), (0, .ref (G 0)), (1, .int (nI a))]) X.1 X.2.1 zd_R_neederBits_3 rfl hl (by decide) rfl (fun ls hl => ?_)
  refine lv_iconst (v := nI 0) X.1 X.2.1 zd_R_neederBits_4 (by decide) ?_
  refine lv_istore_n (lv' := [(3, .int (nI 0)), (2, .int ((nI 1) <<< ((nI a) &&& 31))), (0, .ref (G 0)), (1, .int (nI a))]) X.1 X.2.1 zd_R_neederBits_5 rfl hl (by decide) rfl (fun ls hl => ?_)
  exact q_R_neederBits_r l K G A hD X hr hml hlocks σ a _ hB (8) 0 (Nat.zero_add _) s.heap [] ls hP hS (lv_sub hl [0, 1, 2, 3] rfl)

set_option maxHeartbeats 4000000 in
set_option maxRecDepth 100000 in
/-- forgetAspect's first inner loop -/
theorem q_R_forgetAspect_k {p : Program} {e : Env} {s : State} {m : MethodId} {args : Array Value} {below : List Frame} {meth : Method} {c : Code} {Q : State → Prop} (l : Launch) (K : zK) (G : Nat → Nat) (A : Nat → Prop) (hD : ∀ σ, va_D A (mW K G σ)) (X : zFx K zR_R zb_R_forgetAspect p s m args c) (hr : meth.sig.returnType = none) (hml : c.maxLocals = 5) (hlocks : meth.locks = false) (σ : mS) (t a : Nat) (ht : t < 20) (ha : a < 8) (kont : ∀ (H : Heap) (locs : List Loc) (ls : Array Slot), va_P K.1 zcl (mW K G (mAk σ t a 16)) H → va_S A s.heap H locs → lv_has ls 5 [(2, .int (nI t)), (0, .ref (G 0)), (1, .int (nI a))] → W p l e (zrm 1) s m args below meth c H locs 0 0 Q (F0 m 36 ls [])) : ∀ (j i : Nat), i + j = 16 → ∀ (τ : mS), τ = mAk σ t a i → ∀ (H : Heap) (locs : List Loc) (ls : Array Slot), va_P K.1 zcl (mW K G τ) H → va_S A s.heap H locs → lv_has ls 5 [(3, .int (nI i)), (2, .int (nI t)), (0, .ref (G 0)), (1, .int (nI a))] → W p l e (zrm 1) s m args below meth c H locs 0 0 Q (F0 m 12 ls []) := by
  intro j
  induction j with
  | zero =>
    intro i hi τ hτ H locs ls hP hS hl
    refine lv_iload_n X.1 X.2.1 zd_R_forgetAspect_12 rfl (lv_at hl 0 rfl) ?_
    refine lv_bipush (v := nI 16) X.1 X.2.1 zd_R_forgetAspect_13 (by decide) ?_
    refine lv_icmp_ge (tgt := 36) X.1 X.2.1 zd_R_forgetAspect_15 (by decide) (fun _ => ?_) (fun h9 => absurd (by rw [nI_leI (by omega) (by omega)]; omega) h9)
    exact kont H locs ls (by have h9 := hP; rw [hτ, show i = 16 by omega] at h9; exact h9) hS (by have h9 := hl; rw [show i = 16 by omega] at h9; exact lv_sub h9 [1, 2, 3] rfl)
  | succ j ih =>
    intro i hi τ hτ H locs ls hP hS hl
    refine lv_iload_n X.1 X.2.1 zd_R_forgetAspect_12 rfl (lv_at hl 0 rfl) ?_
    refine lv_bipush (v := nI 16) X.1 X.2.1 zd_R_forgetAspect_13 (by decide) ?_
    refine lv_icmp_ge (tgt := 36) X.1 X.2.1 zd_R_forgetAspect_15 (by decide) (fun h9 => absurd h9 (by rw [nI_leI (by omega) (by omega)]; omega)) (fun _ => ?_)
    refine lv_aload_n X.1 X.2.1 zd_R_forgetAspect_18 rfl (lv_at hl 2 rfl) ?_
    refine g_mR_known X hP zd_R_forgetAspect_19 ?_
    refine lv_iload_n X.1 X.2.1 zd_R_forgetAspect_22 rfl (lv_at hl 1 rfl) ?_
    refine lv_iload_n X.1 X.2.1 zd_R_forgetAspect_23 rfl (lv_at hl 3 rfl) ?_
    refine lv_iload_n X.1 X.2.1 zd_R_forgetAspect_24 rfl (lv_at hl 0 rfl) ?_
    refine z_callSi (As := [.int (nI t), .int (nI a), .int (nI i)]) (rest := [.ref (G 13)]) X hml (r_placeOf l K G A hD τ t a i) (zk_R_103 X.2.2.2.1 (z_rm (by omega) (by decide))) hP hS rfl hl.1 rfl (Nat.le_of_ble_eq_true rfl) zd_R_forgetAspect_25 ⟨Nat.zero_le _, Nat.zero_le _⟩ (fun H locs hP hS => ?_)
    refine lv_iconst (v := nI 0) X.1 X.2.1 zd_R_forgetAspect_28 (by decide) ?_
    refine s_mR_known X hD hP hS (by omega) zd_R_forgetAspect_29 (fun H locs hP hS => ?_)
    have hP : va_P K.1 zcl (mW K G (p_mR_known τ (upN (mR_known τ) ((t * 8 + a) * 16 + i) 0))) H := hP
    refine lv_iinc (v := nI (i + 1)) (lv' := [(3, .int (nI (i + 1))), (2, .int (nI t)), (0, .ref (G 0)), (1, .int (nI a))]) X.1 X.2.1 zd_R_forgetAspect_30 hl (k := 0) rfl (nI_1 _) (by decide) rfl (fun ls hl => ?_)
    refine lv_goto (tgt := 12) X.1 X.2.1 zd_R_forgetAspect_33 (by decide) ?_
    exact ih (i + 1) (by omega) _ (by rw [hτ]; rfl) H locs ls hP hS (lv_sub hl [0, 1, 2, 3] rfl)

set_option maxHeartbeats 4000000 in
set_option maxRecDepth 100000 in
/-- forgetAspect's second inner loop -/
theorem q_R_forgetAspect_m {p : Program} {e : Env} {s : State} {m : MethodId} {args : Array Value} {below : List Frame} {meth : Method} {c : Code} {Q : State → Prop} (l : Launch) (K : zK) (G : Nat → Nat) (A : Nat → Prop) (hD : ∀ σ, va_D A (mW K G σ)) (X : zFx K zR_R zb_R_forgetAspect p s m args c) (hr : meth.sig.returnType = none) (hml : c.maxLocals = 5) (hlocks : meth.locks = false) (σ : mS) (t a : Nat) (ht : t < 20) (ha : a < 8) (hm : mMb σ) (kont : ∀ (H : Heap) (locs : List Loc) (ls : Array Slot), va_P K.1 zcl (mW K G (mAm σ t a 10)) H → va_S A s.heap H locs → lv_has ls 5 [(2, .int (nI t)), (0, .ref (G 0)), (1, .int (nI a))] → W p l e (zrm 1) s m args below meth c H locs 0 0 Q (F0 m 90 ls [])) : ∀ (j i : Nat), i + j = 10 → ∀ (τ : mS), τ = mAm σ t a i → ∀ (H : Heap) (locs : List Loc) (ls : Array Slot), va_P K.1 zcl (mW K G τ) H → va_S A s.heap H locs → lv_has ls 5 [(3, .int (nI i)), (2, .int (nI t)), (0, .ref (G 0)), (1, .int (nI a))] → W p l e (zrm 1) s m args below meth c H locs 0 0 Q (F0 m 38 ls []) := by
  intro j
  induction j with
  | zero =>
    intro i hi τ hτ H locs ls hP hS hl
    have hmb : mMb τ := by rw [hτ]; exact mAm_mb hm t a i
    refine lv_iload_n X.1 X.2.1 zd_R_forgetAspect_38 rfl (lv_at hl 0 rfl) ?_
    refine lv_bipush (v := nI 10) X.1 X.2.1 zd_R_forgetAspect_39 (by decide) ?_
    refine lv_icmp_ge (tgt := 90) X.1 X.2.1 zd_R_forgetAspect_41 (by decide) (fun _ => ?_) (fun h9 => absurd (by rw [nI_leI (by omega) (by omega)]; omega) h9)
    exact kont H locs ls (by have h9 := hP; rw [hτ, show i = 10 by omega] at h9; exact h9) hS (by have h9 := hl; rw [show i = 10 by omega] at h9; exact lv_sub h9 [1, 2, 3] rfl)
  | succ j ih =>
    intro i hi τ hτ H locs ls hP hS hl
    have hmb : mMb τ := by rw [hτ]; exact mAm_mb hm t a i
    refine lv_iload_n X.1 X.2.1 zd_R_forgetAspect_38 rfl (lv_at hl 0 rfl) ?_
    refine lv_bipush (v := nI 10) X.1 X.2.1 zd_R_forgetAspect_39 (by decide) ?_
    refine lv_icmp_ge (tgt := 90) X.1 X.2.1 zd_R_forgetAspect_41 (by decide) (fun h9 => absurd h9 (by rw [nI_leI (by omega) (by omega)]; omega)) (fun _ => ?_)
    refine lv_aload_n X.1 X.2.1 zd_R_forgetAspect_44 rfl (lv_at hl 2 rfl) ?_
    refine g_mR_madeBy X hP zd_R_forgetAspect_45 ?_
    refine lv_bipush (v := nI 10) X.1 X.2.1 zd_R_forgetAspect_48 (by decide) ?_
    refine lv_iload_n X.1 X.2.1 zd_R_forgetAspect_50 rfl (lv_at hl 1 rfl) ?_
    refine lv_imul X.1 X.2.1 zd_R_forgetAspect_51 ?_
    refine z_top (pk_mul _ _) ?_
    refine lv_iload_n X.1 X.2.1 zd_R_forgetAspect_52 rfl (lv_at hl 0 rfl) ?_
    refine lv_iadd X.1 X.2.1 zd_R_forgetAspect_53 ?_
    refine z_top (nI_add _ _) ?_
    refine l_mR_madeBy X hP (by omega) zd_R_forgetAspect_54 ?_
    refine lv_istore (lv' := [(4, .int (mR_madeBy τ ((10 * t) + i))), (3, .int (nI i)), (2, .int (nI t)), (0, .ref (G 0)), (1, .int (nI a))]) X.1 X.2.1 zd_R_forgetAspect_55 hl (by decide) rfl (fun ls hl => ?_)
    refine lv_iload X.1 X.2.1 zd_R_forgetAspect_57 (lv_at hl 0 rfl) ?_
    refine lv_iconst (v := -1) X.1 X.2.1 zd_R_forgetAspect_59 (by decide) ?_
    refine lv_icmp_eq (tgt := 84) X.1 X.2.1 zd_R_forgetAspect_60 (by decide) (fun c1 => ?_) (fun c1 => ?_)
    · refine lv_iinc (v := nI (i + 1)) (lv' := [(3, .int (nI (i + 1))), (4, .int (mR_madeBy τ ((10 * t) + i))), (2, .int (nI t)), (0, .ref (G 0)), (1, .int (nI a))]) X.1 X.2.1 zd_R_forgetAspect_84 hl (k := 1) rfl (nI_1 _) (by decide) rfl (fun ls hl => ?_)
      refine lv_goto (tgt := 38) X.1 X.2.1 zd_R_forgetAspect_87 (by decide) ?_
      exact ih (i + 1) (by omega) _ (by rw [mAm, ← hτ, if_pos c1]) H locs ls hP hS (lv_sub hl [0, 2, 3, 4] rfl)
    · refine lv_iload X.1 X.2.1 zd_R_forgetAspect_63 (lv_at hl 0 rfl) ?_
      obtain ⟨q, hq, e9⟩ := (hmb (10 * t + i)).resolve_left c1
      refine z_top e9 ?_
      refine lv_bipush (v := nI 16) X.1 X.2.1 zd_R_forgetAspect_65 (by decide) ?_
      refine lv_idiv X.1 X.2.1 zd_R_forgetAspect_67 (by decide) ?_
      refine z_top (pk_div (by omega) (by decide) (by decide)) ?_
      refine lv_iload_n X.1 X.2.1 zd_R_forgetAspect_68 rfl (lv_at hl 4 rfl) ?_
      refine lv_icmp_ne (tgt := 84) X.1 X.2.1 zd_R_forgetAspect_69 (by decide) (fun c2 => ?_) (fun c2 => ?_)
      · rw [nI_eq (by omega) (by omega)] at c2
        refine lv_iinc (v := nI (i + 1)) (lv' := [(3, .int (nI (i + 1))), (4, .int (mR_madeBy τ ((10 * t) + i))), (2, .int (nI t)), (0, .ref (G 0)), (1, .int (nI a))]) X.1 X.2.1 zd_R_forgetAspect_84 hl (k := 1) rfl (nI_1 _) (by decide) rfl (fun ls hl => ?_)
        refine lv_goto (tgt := 38) X.1 X.2.1 zd_R_forgetAspect_87 (by decide) ?_
        exact ih (i + 1) (by omega) _ (by rw [mAm, ← hτ, if_neg c1, e9, nI_clamp (by omega), if_neg c2]) H locs ls hP hS (lv_sub hl [0, 2, 3, 4] rfl)
      · rw [nI_eq (by omega) (by omega)] at c2
        refine lv_aload_n X.1 X.2.1 zd_R_forgetAspect_72 rfl (lv_at hl 3 rfl) ?_
        refine g_mR_madeBy X hP zd_R_forgetAspect_73 ?_
        refine lv_bipush (v := nI 10) X.1 X.2.1 zd_R_forgetAspect_76 (by decide) ?_
        refine lv_iload_n X.1 X.2.1 zd_R_forgetAspect_78 rfl (lv_at hl 2 rfl) ?_
        refine lv_imul X.1 X.2.1 zd_R_forgetAspect_79 ?_
        refine z_top (pk_mul _ _) ?_
        refine lv_iload_n X.1 X.2.1 zd_R_forgetAspect_80 rfl (lv_at hl 1 rfl) ?_
        refine lv_iadd X.1 X.2.1 zd_R_forgetAspect_81 ?_
        refine z_top (nI_add _ _) ?_
        refine lv_iconst (v := -1) X.1 X.2.1 zd_R_forgetAspect_82 (by decide) ?_
        refine s_mR_madeBy X hD hP hS (by omega) zd_R_forgetAspect_83 (fun H locs hP hS => ?_)
        have hP : va_P K.1 zcl (mW K G (p_mR_madeBy τ (upd (mR_madeBy τ) ((10 * t) + i) (-1)))) H := hP
        refine lv_iinc (v := nI (i + 1)) (lv' := [(3, .int (nI (i + 1))), (4, .int (mR_madeBy τ ((10 * t) + i))), (2, .int (nI t)), (0, .ref (G 0)), (1, .int (nI a))]) X.1 X.2.1 zd_R_forgetAspect_84 hl (k := 1) rfl (nI_1 _) (by decide) rfl (fun ls hl => ?_)
        refine lv_goto (tgt := 38) X.1 X.2.1 zd_R_forgetAspect_87 (by decide) ?_
        exact ih (i + 1) (by omega) _ (by rw [mAm, ← hτ, if_neg c1, e9, nI_clamp (by omega), if_pos c2]) H locs ls hP hS (lv_sub hl [0, 2, 3, 4] rfl)

set_option maxHeartbeats 4000000 in
set_option maxRecDepth 100000 in
/-- forgetAspect's outer loop -/
theorem q_R_forgetAspect {p : Program} {e : Env} {s : State} {m : MethodId} {args : Array Value} {below : List Frame} {meth : Method} {c : Code} (l : Launch) (K : zK) (G : Nat → Nat) (A : Nat → Prop) (hD : ∀ σ, va_D A (mW K G σ)) (X : zFx K zR_R zb_R_forgetAspect p s m args c) (hr : meth.sig.returnType = none) (hml : c.maxLocals = 5) (hlocks : meth.locks = false) (σ : mS) (a : Nat) (ha : a < 8) (hB : mB σ) (hm : mMb σ) : ∀ (j t : Nat), t + j = mR_targets σ → ∀ (τ : mS), τ = mAo σ a t → ∀ (H : Heap) (locs : List Loc) (ls : Array Slot), va_P K.1 zcl (mW K G τ) H → va_S A s.heap H locs → lv_has ls 5 [(2, .int (nI t)), (0, .ref (G 0)), (1, .int (nI a))] → W p l e (zrm 1) s m args below meth c H locs 0 0 (MQ below (zPost K A (mW K G (mAo σ a (mR_targets σ))) none) args s 0 0 A) (F0 m 2 ls []) := by
  intro j
  induction j with
  | zero =>
    intro t hi τ hτ H locs ls hP hS hl
    have hTA : mSame τ σ := by rw [hτ]; exact mAo_same σ a t
    have hoT := hTA.1
    have hBT := hB.1
    have hmb : mMb τ := by rw [hτ]; exact mAo_mb hm a t
    refine lv_iload_n X.1 X.2.1 zd_R_forgetAspect_2 rfl (lv_at hl 0 rfl) ?_
    refine lv_aload_n X.1 X.2.1 zd_R_forgetAspect_3 rfl (lv_at hl 1 rfl) ?_
    refine g_mR_targets X hP zd_R_forgetAspect_4 ?_
    refine z_top (congrArg nI hoT) ?_
    refine lv_icmp_ge (tgt := 96) X.1 X.2.1 zd_R_forgetAspect_7 (by decide) (fun _ => ?_) (fun h9 => absurd (by rw [nI_leI (by omega) (by omega)]; omega) h9)
    exact z_vret X.1 X.2.1 hr hlocks (by rw [hτ, show t = mR_targets σ by omega]) hP hS zd_R_forgetAspect_96
  | succ j ih =>
    intro t hi τ hτ H locs ls hP hS hl
    have hTA : mSame τ σ := by rw [hτ]; exact mAo_same σ a t
    have hoT := hTA.1
    have hBT := hB.1
    have hmb : mMb τ := by rw [hτ]; exact mAo_mb hm a t
    refine lv_iload_n X.1 X.2.1 zd_R_forgetAspect_2 rfl (lv_at hl 0 rfl) ?_
    refine lv_aload_n X.1 X.2.1 zd_R_forgetAspect_3 rfl (lv_at hl 1 rfl) ?_
    refine g_mR_targets X hP zd_R_forgetAspect_4 ?_
    refine z_top (congrArg nI hoT) ?_
    refine lv_icmp_ge (tgt := 96) X.1 X.2.1 zd_R_forgetAspect_7 (by decide) (fun h9 => absurd h9 (by rw [nI_leI (by omega) (by omega)]; omega)) (fun _ => ?_)
    refine lv_iconst (v := nI 0) X.1 X.2.1 zd_R_forgetAspect_10 (by decide) ?_
    refine lv_istore_n (lv' := [(3, .int (nI 0)), (2, .int (nI t)), (0, .ref (G 0)), (1, .int (nI a))]) X.1 X.2.1 zd_R_forgetAspect_11 rfl hl (by decide) rfl (fun ls hl => ?_)
    refine q_R_forgetAspect_k l K G A hD X hr hml hlocks τ t a (by omega) ha (fun H locs ls hP hS hl => ?_) 16 0 rfl _ rfl H locs ls hP hS (lv_sub hl [0, 1, 2, 3] rfl)
    refine lv_iconst (v := nI 0) X.1 X.2.1 zd_R_forgetAspect_36 (by decide) ?_
    refine lv_istore_n (lv' := [(3, .int (nI 0)), (2, .int (nI t)), (0, .ref (G 0)), (1, .int (nI a))]) X.1 X.2.1 zd_R_forgetAspect_37 rfl hl (by decide) rfl (fun ls hl => ?_)
    refine q_R_forgetAspect_m l K G A hD X hr hml hlocks (mAk τ t a 16) t a (by omega) ha (mAk_mb hmb t a 16) (fun H locs ls hP hS hl => ?_) 10 0 rfl _ rfl H locs ls hP hS (lv_sub hl [0, 1, 2, 3] rfl)
    refine lv_iinc (v := nI (t + 1)) (lv' := [(2, .int (nI (t + 1))), (0, .ref (G 0)), (1, .int (nI a))]) X.1 X.2.1 zd_R_forgetAspect_90 hl (k := 0) rfl (nI_1 _) (by decide) rfl (fun ls hl => ?_)
    refine lv_goto (tgt := 2) X.1 X.2.1 zd_R_forgetAspect_93 (by decide) ?_
    exact ih (t + 1) (by omega) _ (by rw [mAo, ← hτ]) H locs ls hP hS (lv_sub hl [0, 1, 2] rfl)

set_option maxHeartbeats 4000000 in
set_option maxRecDepth 100000 in
/-- forgetAspect(a) -/
theorem r_forgetAspect (l : Launch) (K : zK) (G : Nat → Nat) (A : Nat → Prop) (hD : ∀ σ, va_D A (mW K G σ)) (σ : mS) (a : Nat) (ha : a < 8) (hB : mB σ) (hm : mMb σ) : zMet l K A zy_R_forgetAspect zws_R_forgetAspect 1 [.ref (G 0), .int (nI a)] (mW K G σ) (mW K G (mAo σ a (mR_targets σ))) none := by
  refine z_entry (by decide) (Nat.le_of_ble_eq_true rfl) ?_
  intro p e s m below meth c ls X hr hml hlocks hP hl
  have hS : va_S A s.heap s.heap [] := va_S.rf
  have hl : lv_has ls 5 [(0, .ref (G 0)), (1, .int (nI a))] := hl
  refine lv_iconst (v := nI 0) X.1 X.2.1 zd_R_forgetAspect_0 (by decide) ?_
  refine lv_istore_n (lv' := [(2, .int (nI 0)), (0, .ref (G 0)), (1, .int (nI a))]) X.1 X.2.1 zd_R_forgetAspect_1 rfl hl (by decide) rfl (fun ls hl => ?_)
  exact q_R_forgetAspect l K G A hD X hr hml hlocks σ a ha hB hm (mR_targets σ) 0 (Nat.zero_add _) _ rfl s.heap [] ls hP hS (lv_sub hl [0, 1, 2] rfl)

set_option maxHeartbeats 4000000 in
set_option maxRecDepth 100000 in
/-- need: refused -/
theorem r_need_bad (l : Launch) (K : zK) (G : Nat → Nat) (A : Nat → Prop) (hD : ∀ σ, va_D A (mW K G σ)) (σ : mS) (x y : Int32) (hB : mB σ) (h : ¬ ∃ n o, n < mR_aspects σ ∧ x = nI n ∧ o < mR_aspects σ ∧ y = nI o ∧ mHN σ n o = 0 ∧ mR_needMany σ n < 3) : zMet l K A zy_R_need zws_R_need 2 [.ref (G 0), .int x, .int y] (mW K G σ) (mW K G (p_mR_thrown σ 0)) (some (.int (-1))) := by
  have hBo := hB.1
  have hBa := hB.2.1
  refine z_entry (by decide) (Nat.le_of_ble_eq_true rfl) ?_
  intro p e s m below meth c ls X hr hml hlocks hP hl
  have hS : va_S A s.heap s.heap [] := va_S.rf
  have hl : lv_has ls 5 [(0, .ref (G 0)), (1, .int x), (2, .int y)] := hl
  refine lv_aload_n X.1 X.2.1 zd_R_need_0 rfl (lv_at hl 0 rfl) ?_
  refine lv_iconst (v := nI 0) X.1 X.2.1 zd_R_need_1 (by decide) ?_
  refine s_mR_thrown X hD hP hS zd_R_need_2 (fun H locs hP hS => ?_)
  have hP : va_P K.1 zcl (mW K G (p_mR_thrown σ 0)) H := hP
  refine lv_aload_n X.1 X.2.1 zd_R_need_5 rfl (lv_at hl 0 rfl) ?_
  refine lv_iload_n X.1 X.2.1 zd_R_need_6 rfl (lv_at hl 1 rfl) ?_
  refine z_callVi (As := [.int x]) (rest := []) (q0 := 0) (ci := 4) X hml (r_isAspect l K G A hD (p_mR_thrown σ 0) x) (zk_R_107 X.2.2.2.1 (z_rm (by omega) (by decide))) rfl rfl rfl hP hS rfl hl.1 rfl (Nat.le_of_ble_eq_true rfl) zd_R_need_7 ⟨Nat.zero_le _, Nat.zero_le _⟩ (fun H locs hP hS => ?_)
  refine lv_if_eq (tgt := 40) X.1 X.2.1 zd_R_need_10 (by decide) (fun c1 => ?_) (fun c1 => ?_)
  · rw [z_eq0 (cHas_lt _ _)] at c1
    refine lv_iconst (v := -1) X.1 X.2.1 zd_R_need_40 (by decide) ?_
    exact z_iret X.1 X.2.1 hr hlocks rfl rfl hP hS zd_R_need_41
  · rw [z_eq0 (cHas_lt _ _)] at c1
    obtain ⟨n, hn, rfl⟩ := cHas_ex (o := mR_aspects σ) (by omega) c1
    have hc3 := hB.2.2.2.2.2.2.1 n
    refine lv_aload_n X.1 X.2.1 zd_R_need_13 rfl (lv_at hl 0 rfl) ?_
    refine lv_iload_n X.1 X.2.1 zd_R_need_14 rfl (lv_at hl 2 rfl) ?_
    refine z_callVi (As := [.int y]) (rest := []) (q0 := 0) (ci := 4) X hml (r_isAspect l K G A hD (p_mR_thrown σ 0) y) (zk_R_107 X.2.2.2.1 (z_rm (by omega) (by decide))) rfl rfl rfl hP hS rfl hl.1 rfl (Nat.le_of_ble_eq_true rfl) zd_R_need_15 ⟨Nat.zero_le _, Nat.zero_le _⟩ (fun H locs hP hS => ?_)
    refine lv_if_eq (tgt := 40) X.1 X.2.1 zd_R_need_18 (by decide) (fun c2 => ?_) (fun c2 => ?_)
    · rw [z_eq0 (cHas_lt _ _)] at c2
      refine lv_iconst (v := -1) X.1 X.2.1 zd_R_need_40 (by decide) ?_
      exact z_iret X.1 X.2.1 hr hlocks rfl rfl hP hS zd_R_need_41
    · rw [z_eq0 (cHas_lt _ _)] at c2
      obtain ⟨o, ho, rfl⟩ := cHas_ex (o := mR_aspects σ) (by omega) c2
      refine lv_aload_n X.1 X.2.1 zd_R_need_21 rfl (lv_at hl 0 rfl) ?_
      refine lv_iload_n X.1 X.2.1 zd_R_need_22 rfl (lv_at hl 1 rfl) ?_
      refine lv_iload_n X.1 X.2.1 zd_R_need_23 rfl (lv_at hl 2 rfl) ?_
      refine z_callVi (As := [.int (nI n), .int (nI o)]) (rest := []) (q0 := 0) (ci := 4) X hml (r_hasNeed l K G A hD (p_mR_thrown σ 0) n o (by omega) (by omega) hB) (zk_R_99 X.2.2.2.1 (z_rm (by omega) (by decide))) rfl rfl rfl hP hS rfl hl.1 rfl (Nat.le_of_ble_eq_true rfl) zd_R_need_24 ⟨Nat.zero_le _, Nat.zero_le _⟩ (fun H locs hP hS => ?_)
      refine z_top (congrArg nI (mHN_th σ n o)) ?_
      refine lv_if_ne (tgt := 40) X.1 X.2.1 zd_R_need_27 (by decide) (fun c3 => ?_) (fun c3 => ?_)
      · rw [z_eq0 (mHN_lt _ _ _)] at c3
        refine lv_iconst (v := -1) X.1 X.2.1 zd_R_need_40 (by decide) ?_
        exact z_iret X.1 X.2.1 hr hlocks rfl rfl hP hS zd_R_need_41
      · rw [z_eq0 (mHN_lt _ _ _)] at c3
        refine lv_aload_n X.1 X.2.1 zd_R_need_30 rfl (lv_at hl 0 rfl) ?_
        refine g_mR_needMany X hP zd_R_need_31 ?_
        refine lv_iload_n X.1 X.2.1 zd_R_need_34 rfl (lv_at hl 1 rfl) ?_
        refine l_mR_needMany X hP (by omega) zd_R_need_35 ?_
        refine z_top (y := (nI (mR_needMany σ n))) rfl ?_
        refine lv_iconst (v := nI 3) X.1 X.2.1 zd_R_need_36 (by decide) ?_
        refine lv_icmp_ne (tgt := 42) X.1 X.2.1 zd_R_need_37 (by decide) (fun c4 => ?_) (fun c4 => ?_)
        · rw [nI_eq (by omega) (by omega)] at c4
          exact absurd ⟨n, o, hn, rfl, ho, rfl, c3, (by have h9 : ¬ mR_needMany σ n = 3 := c4; omega)⟩ h
        · rw [nI_eq (by omega) (by omega)] at c4
          refine lv_iconst (v := -1) X.1 X.2.1 zd_R_need_40 (by decide) ?_
          exact z_iret X.1 X.2.1 hr hlocks rfl rfl hP hS zd_R_need_41

set_option maxHeartbeats 4000000 in
set_option maxRecDepth 100000 in
/-- need: a ring -/
theorem r_need_r (l : Launch) (K : zK) (G : Nat → Nat) (A : Nat → Prop) (hD : ∀ σ, va_D A (mW K G σ)) (σ : mS) (n o : Nat) (hB : mB σ) (hn : n < mR_aspects σ) (ho : o < mR_aspects σ) (hd : mHN σ n o = 0) (h3 : mR_needMany σ n < 3) (hrr : (mBits σ n >>> (nI o &&& 31)) &&& nI 1 = nI 1) : zMet l K A zy_R_need zws_R_need 2 [.ref (G 0), .int (nI n), .int (nI o)] (mW K G σ) (mW K G (p_mR_thrown σ 0)) (some (.int (-2))) := by
  have hBo := hB.1
  have hBa := hB.2.1
  refine z_entry (by decide) (Nat.le_of_ble_eq_true rfl) ?_
  intro p e s m below meth c ls X hr hml hlocks hP hl
  have hS : va_S A s.heap s.heap [] := va_S.rf
  have hl : lv_has ls 5 [(0, .ref (G 0)), (1, .int (nI n)), (2, .int (nI o))] := hl
  refine lv_aload_n X.1 X.2.1 zd_R_need_0 rfl (lv_at hl 0 rfl) ?_
  refine lv_iconst (v := nI 0) X.1 X.2.1 zd_R_need_1 (by decide) ?_
  refine s_mR_thrown X hD hP hS zd_R_need_2 (fun H locs hP hS => ?_)
  have hP : va_P K.1 zcl (mW K G (p_mR_thrown σ 0)) H := hP
  refine lv_aload_n X.1 X.2.1 zd_R_need_5 rfl (lv_at hl 0 rfl) ?_
  refine lv_iload_n X.1 X.2.1 zd_R_need_6 rfl (lv_at hl 1 rfl) ?_
  refine z_callVi (As := [.int (nI n)]) (rest := []) (q0 := 0) (ci := 4) X hml (r_isAspect l K G A hD (p_mR_thrown σ 0) (nI n)) (zk_R_107 X.2.2.2.1 (z_rm (by omega) (by decide))) rfl rfl rfl hP hS rfl hl.1 rfl (Nat.le_of_ble_eq_true rfl) zd_R_need_7 ⟨Nat.zero_le _, Nat.zero_le _⟩ (fun H locs hP hS => ?_)
  refine lv_if_eq (tgt := 40) X.1 X.2.1 zd_R_need_10 (by decide) (fun h9 => absurd h9 (by show ¬ nI (cHas (mR_aspects σ) _) = 0; rw [cHas_y hn (by omega)]; decide)) (fun _ => ?_)
  refine lv_aload_n X.1 X.2.1 zd_R_need_13 rfl (lv_at hl 0 rfl) ?_
  refine lv_iload_n X.1 X.2.1 zd_R_need_14 rfl (lv_at hl 2 rfl) ?_
  refine z_callVi (As := [.int (nI o)]) (rest := []) (q0 := 0) (ci := 4) X hml (r_isAspect l K G A hD (p_mR_thrown σ 0) (nI o)) (zk_R_107 X.2.2.2.1 (z_rm (by omega) (by decide))) rfl rfl rfl hP hS rfl hl.1 rfl (Nat.le_of_ble_eq_true rfl) zd_R_need_15 ⟨Nat.zero_le _, Nat.zero_le _⟩ (fun H locs hP hS => ?_)
  refine lv_if_eq (tgt := 40) X.1 X.2.1 zd_R_need_18 (by decide) (fun h9 => absurd h9 (by show ¬ nI (cHas (mR_aspects σ) _) = 0; rw [cHas_y ho (by omega)]; decide)) (fun _ => ?_)
  refine lv_aload_n X.1 X.2.1 zd_R_need_21 rfl (lv_at hl 0 rfl) ?_
  refine lv_iload_n X.1 X.2.1 zd_R_need_22 rfl (lv_at hl 1 rfl) ?_
  refine lv_iload_n X.1 X.2.1 zd_R_need_23 rfl (lv_at hl 2 rfl) ?_
  refine z_callVi (As := [.int (nI n), .int (nI o)]) (rest := []) (q0 := 0) (ci := 4) X hml (r_hasNeed l K G A hD (p_mR_thrown σ 0) n o (by omega) (by omega) hB) (zk_R_99 X.2.2.2.1 (z_rm (by omega) (by decide))) rfl rfl rfl hP hS rfl hl.1 rfl (Nat.le_of_ble_eq_true rfl) zd_R_need_24 ⟨Nat.zero_le _, Nat.zero_le _⟩ (fun H locs hP hS => ?_)
  refine z_top (congrArg nI (mHN_th σ n o)) ?_
  refine lv_if_ne (tgt := 40) X.1 X.2.1 zd_R_need_27 (by decide) (fun h9 => absurd (by show nI (mHN σ n o) = 0; rw [hd]; rfl) h9) (fun _ => ?_)
  refine lv_aload_n X.1 X.2.1 zd_R_need_30 rfl (lv_at hl 0 rfl) ?_
  refine g_mR_needMany X hP zd_R_need_31 ?_
  refine lv_iload_n X.1 X.2.1 zd_R_need_34 rfl (lv_at hl 1 rfl) ?_
  refine l_mR_needMany X hP (by omega) zd_R_need_35 ?_
  refine z_top (y := (nI (mR_needMany σ n))) rfl ?_
  refine lv_iconst (v := nI 3) X.1 X.2.1 zd_R_need_36 (by decide) ?_
  refine lv_icmp_ne (tgt := 42) X.1 X.2.1 zd_R_need_37 (by decide) (fun _ => ?_) (fun h9 => absurd h9 (by rw [nI_eq (by omega) (by omega)]; omega))
  refine lv_aload_n X.1 X.2.1 zd_R_need_42 rfl (lv_at hl 0 rfl) ?_
  refine lv_iload_n X.1 X.2.1 zd_R_need_43 rfl (lv_at hl 1 rfl) ?_
  refine z_callVi (As := [.int (nI n)]) (rest := []) (q0 := 0) (ci := 4) X hml (r_neederBits l K G A hD (p_mR_thrown σ 0) n hB) (zk_R_110 X.2.2.2.1 (z_rm (by omega) (by decide))) rfl rfl rfl hP hS rfl hl.1 rfl (Nat.le_of_ble_eq_true rfl) zd_R_need_44 ⟨Nat.zero_le _, Nat.zero_le _⟩ (fun H locs hP hS => ?_)
  refine z_top (mBits_th σ n) ?_
  refine lv_istore_n (lv' := [(3, .int (mBits σ n)), (0, .ref (G 0)), (1, .int (nI n)), (2, .int (nI o))]) X.1 X.2.1 zd_R_need_47 rfl hl (by decide) rfl (fun ls hl => ?_)
  refine lv_iload_n X.1 X.2.1 zd_R_need_48 rfl (lv_at hl 0 rfl) ?_
  refine lv_iload_n X.1 X.2.1 zd_R_need_49 rfl (lv_at hl 3 rfl) ?_
  refine lv_ishr X.1 X.2.1 zd_R_need_50 ?_
  refine lv_iconst (v := nI 1) X.1 X.2.1 zd_R_need_51 (by decide) ?_
  refine lv_iand X.1 X.2.1 zd_R_need_52 ?_
  refine lv_iconst (v := nI 1) X.1 X.2.1 zd_R_need_53 (by decide) ?_
  refine lv_icmp_ne (tgt := 60) X.1 X.2.1 zd_R_need_54 (by decide) (fun h9 => absurd hrr h9) (fun _ => ?_)
  refine lv_bipush (v := -2) X.1 X.2.1 zd_R_need_57 (by decide) ?_
  exact z_iret X.1 X.2.1 hr hlocks rfl rfl hP hS zd_R_need_59

set_option maxHeartbeats 4000000 in
set_option maxRecDepth 100000 in
/-- need's loop -/
theorem q_R_need {p : Program} {e : Env} {s : State} {m : MethodId} {args : Array Value} {below : List Frame} {meth : Method} {c : Code} (l : Launch) (K : zK) (G : Nat → Nat) (A : Nat → Prop) (hD : ∀ σ, va_D A (mW K G σ)) (X : zFx K zR_R zb_R_need p s m args c) (hr : meth.sig.returnType = (some .int)) (hml : c.maxLocals = 5) (hlocks : meth.locks = false) (σ : mS) (n o : Nat) (x : Int32) (hB : mB σ) (hm : mMb σ) : ∀ (j b : Nat), b + j = mR_aspects σ → ∀ (τ : mS), τ = mNl σ x b → ∀ (H : Heap) (locs : List Loc) (ls : Array Slot), va_P K.1 zcl (mW K G τ) H → va_S A s.heap H locs → lv_has ls 5 [(4, .int (nI b)), (3, .int x), (0, .ref (G 0)), (1, .int (nI n)), (2, .int (nI o))] → W p l e (zrm 2) s m args below meth c H locs 0 0 (MQ below (zPost K A (mW K G (mNl σ x (mR_aspects σ))) (some (.int (nI 1)))) args s 0 0 A) (F0 m 89 ls []) := by
  intro j
  induction j with
  | zero =>
    intro b hi τ hτ H locs ls hP hS hl
    have hTA : mSame τ σ := by rw [hτ]; exact mNl_same σ x b
    have hoA := hTA.2.1
    have hoT := hTA.1
    have hBa := hB.2.1
    have hBt : mB τ := mB_same hTA hB
    have hmb : mMb τ := by rw [hτ]; exact mNl_mb hm x b
    refine lv_iload X.1 X.2.1 zd_R_need_89 (lv_at hl 0 rfl) ?_
    refine lv_aload_n X.1 X.2.1 zd_R_need_91 rfl (lv_at hl 2 rfl) ?_
    refine g_mR_aspects X hP zd_R_need_92 ?_
    refine z_top (congrArg nI hoA) ?_
    refine lv_icmp_ge (tgt := 120) X.1 X.2.1 zd_R_need_95 (by decide) (fun _ => ?_) (fun h9 => absurd (by rw [nI_leI (by omega) (by omega)]; omega) h9)
    refine lv_iconst (v := nI 1) X.1 X.2.1 zd_R_need_120 (by decide) ?_
    exact z_iret X.1 X.2.1 hr hlocks rfl (by rw [hτ, show b = mR_aspects σ by omega]) hP hS zd_R_need_121
  | succ j ih =>
    intro b hi τ hτ H locs ls hP hS hl
    have hTA : mSame τ σ := by rw [hτ]; exact mNl_same σ x b
    have hoA := hTA.2.1
    have hoT := hTA.1
    have hBa := hB.2.1
    have hBt : mB τ := mB_same hTA hB
    have hmb : mMb τ := by rw [hτ]; exact mNl_mb hm x b
    refine lv_iload X.1 X.2.1 zd_R_need_89 (lv_at hl 0 rfl) ?_
    refine lv_aload_n X.1 X.2.1 zd_R_need_91 rfl (lv_at hl 2 rfl) ?_
    refine g_mR_aspects X hP zd_R_need_92 ?_
    refine z_top (congrArg nI hoA) ?_
    refine lv_icmp_ge (tgt := 120) X.1 X.2.1 zd_R_need_95 (by decide) (fun h9 => absurd h9 (by rw [nI_leI (by omega) (by omega)]; omega)) (fun _ => ?_)
    refine lv_iload_n X.1 X.2.1 zd_R_need_98 rfl (lv_at hl 1 rfl) ?_
    refine lv_iload X.1 X.2.1 zd_R_need_99 (lv_at hl 0 rfl) ?_
    refine lv_ishr X.1 X.2.1 zd_R_need_101 ?_
    refine lv_iconst (v := nI 1) X.1 X.2.1 zd_R_need_102 (by decide) ?_
    refine lv_iand X.1 X.2.1 zd_R_need_103 ?_
    refine lv_iconst (v := nI 1) X.1 X.2.1 zd_R_need_104 (by decide) ?_
    refine lv_icmp_ne (tgt := 114) X.1 X.2.1 zd_R_need_105 (by decide) (fun c1 => ?_) (fun c1 => ?_)
    · refine lv_iinc (v := nI (b + 1)) (lv' := [(4, .int (nI (b + 1))), (3, .int x), (0, .ref (G 0)), (1, .int (nI n)), (2, .int (nI o))]) X.1 X.2.1 zd_R_need_114 hl (k := 0) rfl (nI_1 _) (by decide) rfl (fun ls hl => ?_)
      refine lv_goto (tgt := 89) X.1 X.2.1 zd_R_need_117 (by decide) ?_
      exact ih (b + 1) (by omega) _ (by rw [mNl, ← hτ, if_neg c1]) H locs ls hP hS (lv_sub hl [0, 1, 2, 3, 4] rfl)
    · refine lv_aload_n X.1 X.2.1 zd_R_need_108 rfl (lv_at hl 2 rfl) ?_
      refine lv_iload X.1 X.2.1 zd_R_need_109 (lv_at hl 0 rfl) ?_
      refine z_callVv (As := [.int (nI b)]) (rest := []) (q0 := 0) (ci := 4) X hml (r_forgetAspect l K G A hD τ b (by omega) hBt hmb) (zk_R_114 X.2.2.2.1 (z_rm (by omega) (by decide))) rfl rfl rfl hP hS rfl hl.1 rfl (Nat.le_of_ble_eq_true rfl) zd_R_need_111 ⟨Nat.zero_le _, Nat.zero_le _⟩ (fun H locs hP hS => ?_)
      refine lv_iinc (v := nI (b + 1)) (lv' := [(4, .int (nI (b + 1))), (3, .int x), (0, .ref (G 0)), (1, .int (nI n)), (2, .int (nI o))]) X.1 X.2.1 zd_R_need_114 hl (k := 0) rfl (nI_1 _) (by decide) rfl (fun ls hl => ?_)
      refine lv_goto (tgt := 89) X.1 X.2.1 zd_R_need_117 (by decide) ?_
      exact ih (b + 1) (by omega) _ (by rw [mNl, ← hτ, if_pos c1, hoT]) H locs ls hP hS (lv_sub hl [0, 1, 2, 3, 4] rfl)

set_option maxHeartbeats 4000000 in
set_option maxRecDepth 100000 in
/-- need -/
theorem r_need_1 (l : Launch) (K : zK) (G : Nat → Nat) (A : Nat → Prop) (hD : ∀ σ, va_D A (mW K G σ)) (σ : mS) (n o : Nat) (hB : mB σ) (hn : n < mR_aspects σ) (ho : o < mR_aspects σ) (hd : mHN σ n o = 0) (h3 : mR_needMany σ n < 3) (hr0 : ¬ (mBits σ n >>> (nI o &&& 31)) &&& nI 1 = nI 1) (hB2 : mB (mNeed0 σ n o)) (hm : mMb σ) : zMet l K A zy_R_need zws_R_need 2 [.ref (G 0), .int (nI n), .int (nI o)] (mW K G σ) (mW K G (mNl (mNeed0 σ n o) (mBits σ n) (mR_aspects σ))) (some (.int (nI 1))) := by
  have hBo := hB.1
  have hBa := hB.2.1
  refine z_entry (by decide) (Nat.le_of_ble_eq_true rfl) ?_
  intro p e s m below meth c ls X hr hml hlocks hP hl
  have hS : va_S A s.heap s.heap [] := va_S.rf
  have hl : lv_has ls 5 [(0, .ref (G 0)), (1, .int (nI n)), (2, .int (nI o))] := hl
  refine lv_aload_n X.1 X.2.1 zd_R_need_0 rfl (lv_at hl 0 rfl) ?_
  refine lv_iconst (v := nI 0) X.1 X.2.1 zd_R_need_1 (by decide) ?_
  refine s_mR_thrown X hD hP hS zd_R_need_2 (fun H locs hP hS => ?_)
  have hP : va_P K.1 zcl (mW K G (p_mR_thrown σ 0)) H := hP
  refine lv_aload_n X.1 X.2.1 zd_R_need_5 rfl (lv_at hl 0 rfl) ?_
  refine lv_iload_n X.1 X.2.1 zd_R_need_6 rfl (lv_at hl 1 rfl) ?_
  refine z_callVi (As := [.int (nI n)]) (rest := []) (q0 := 0) (ci := 4) X hml (r_isAspect l K G A hD (p_mR_thrown σ 0) (nI n)) (zk_R_107 X.2.2.2.1 (z_rm (by omega) (by decide))) rfl rfl rfl hP hS rfl hl.1 rfl (Nat.le_of_ble_eq_true rfl) zd_R_need_7 ⟨Nat.zero_le _, Nat.zero_le _⟩ (fun H locs hP hS => ?_)
  refine lv_if_eq (tgt := 40) X.1 X.2.1 zd_R_need_10 (by decide) (fun h9 => absurd h9 (by show ¬ nI (cHas (mR_aspects σ) _) = 0; rw [cHas_y hn (by omega)]; decide)) (fun _ => ?_)
  refine lv_aload_n X.1 X.2.1 zd_R_need_13 rfl (lv_at hl 0 rfl) ?_
  refine lv_iload_n X.1 X.2.1 zd_R_need_14 rfl (lv_at hl 2 rfl) ?_
  refine z_callVi (As := [.int (nI o)]) (rest := []) (q0 := 0) (ci := 4) X hml (r_isAspect l K G A hD (p_mR_thrown σ 0) (nI o)) (zk_R_107 X.2.2.2.1 (z_rm (by omega) (by decide))) rfl rfl rfl hP hS rfl hl.1 rfl (Nat.le_of_ble_eq_true rfl) zd_R_need_15 ⟨Nat.zero_le _, Nat.zero_le _⟩ (fun H locs hP hS => ?_)
  refine lv_if_eq (tgt := 40) X.1 X.2.1 zd_R_need_18 (by decide) (fun h9 => absurd h9 (by show ¬ nI (cHas (mR_aspects σ) _) = 0; rw [cHas_y ho (by omega)]; decide)) (fun _ => ?_)
  refine lv_aload_n X.1 X.2.1 zd_R_need_21 rfl (lv_at hl 0 rfl) ?_
  refine lv_iload_n X.1 X.2.1 zd_R_need_22 rfl (lv_at hl 1 rfl) ?_
  refine lv_iload_n X.1 X.2.1 zd_R_need_23 rfl (lv_at hl 2 rfl) ?_
  refine z_callVi (As := [.int (nI n), .int (nI o)]) (rest := []) (q0 := 0) (ci := 4) X hml (r_hasNeed l K G A hD (p_mR_thrown σ 0) n o (by omega) (by omega) hB) (zk_R_99 X.2.2.2.1 (z_rm (by omega) (by decide))) rfl rfl rfl hP hS rfl hl.1 rfl (Nat.le_of_ble_eq_true rfl) zd_R_need_24 ⟨Nat.zero_le _, Nat.zero_le _⟩ (fun H locs hP hS => ?_)
  refine z_top (congrArg nI (mHN_th σ n o)) ?_
  refine lv_if_ne (tgt := 40) X.1 X.2.1 zd_R_need_27 (by decide) (fun h9 => absurd (by show nI (mHN σ n o) = 0; rw [hd]; rfl) h9) (fun _ => ?_)
  refine lv_aload_n X.1 X.2.1 zd_R_need_30 rfl (lv_at hl 0 rfl) ?_
  refine g_mR_needMany X hP zd_R_need_31 ?_
  refine lv_iload_n X.1 X.2.1 zd_R_need_34 rfl (lv_at hl 1 rfl) ?_
  refine l_mR_needMany X hP (by omega) zd_R_need_35 ?_
  refine z_top (y := (nI (mR_needMany σ n))) rfl ?_
  refine lv_iconst (v := nI 3) X.1 X.2.1 zd_R_need_36 (by decide) ?_
  refine lv_icmp_ne (tgt := 42) X.1 X.2.1 zd_R_need_37 (by decide) (fun _ => ?_) (fun h9 => absurd h9 (by rw [nI_eq (by omega) (by omega)]; omega))
  refine lv_aload_n X.1 X.2.1 zd_R_need_42 rfl (lv_at hl 0 rfl) ?_
  refine lv_iload_n X.1 X.2.1 zd_R_need_43 rfl (lv_at hl 1 rfl) ?_
  refine z_callVi (As := [.int (nI n)]) (rest := []) (q0 := 0) (ci := 4) X hml (r_neederBits l K G A hD (p_mR_thrown σ 0) n hB) (zk_R_110 X.2.2.2.1 (z_rm (by omega) (by decide))) rfl rfl rfl hP hS rfl hl.1 rfl (Nat.le_of_ble_eq_true rfl) zd_R_need_44 ⟨Nat.zero_le _, Nat.zero_le _⟩ (fun H locs hP hS => ?_)
  refine z_top (mBits_th σ n) ?_
  refine lv_istore_n (lv' := [(3, .int (mBits σ n)), (0, .ref (G 0)), (1, .int (nI n)), (2, .int (nI o))]) X.1 X.2.1 zd_R_need_47 rfl hl (by decide) rfl (fun ls hl => ?_)
  refine lv_iload_n X.1 X.2.1 zd_R_need_48 rfl (lv_at hl 0 rfl) ?_
  refine lv_iload_n X.1 X.2.1 zd_R_need_49 rfl (lv_at hl 3 rfl) ?_
  refine lv_ishr X.1 X.2.1 zd_R_need_50 ?_
  refine lv_iconst (v := nI 1) X.1 X.2.1 zd_R_need_51 (by decide) ?_
  refine lv_iand X.1 X.2.1 zd_R_need_52 ?_
  refine lv_iconst (v := nI 1) X.1 X.2.1 zd_R_need_53 (by decide) ?_
  refine lv_icmp_ne (tgt := 60) X.1 X.2.1 zd_R_need_54 (by decide) (fun _ => ?_) (fun h9 => absurd h9 hr0)
  refine lv_aload_n X.1 X.2.1 zd_R_need_60 rfl (lv_at hl 1 rfl) ?_
  refine g_mR_needs X hP zd_R_need_61 ?_
  refine lv_iconst (v := nI 3) X.1 X.2.1 zd_R_need_64 (by decide) ?_
  refine lv_iload_n X.1 X.2.1 zd_R_need_65 rfl (lv_at hl 2 rfl) ?_
  refine lv_imul X.1 X.2.1 zd_R_need_66 ?_
  refine z_top (pk_mul _ _) ?_
  refine lv_aload_n X.1 X.2.1 zd_R_need_67 rfl (lv_at hl 1 rfl) ?_
  refine g_mR_needMany X hP zd_R_need_68 ?_
  refine lv_iload_n X.1 X.2.1 zd_R_need_71 rfl (lv_at hl 2 rfl) ?_
  refine l_mR_needMany X hP (by omega) zd_R_need_72 ?_
  refine z_top (y := (nI (mR_needMany σ n))) rfl ?_
  refine lv_iadd X.1 X.2.1 zd_R_need_73 ?_
  refine z_top (nI_add _ _) ?_
  refine lv_iload_n X.1 X.2.1 zd_R_need_74 rfl (lv_at hl 3 rfl) ?_
  refine s_mR_needs X hD hP hS (by omega) zd_R_need_75 (fun H locs hP hS => ?_)
  have hP : va_P K.1 zcl (mW K G (p_mR_needs (p_mR_thrown σ 0) (upN (mR_needs σ) ((3 * n) + (mR_needMany σ n)) o))) H := hP
  refine lv_aload_n X.1 X.2.1 zd_R_need_76 rfl (lv_at hl 1 rfl) ?_
  refine g_mR_needMany X hP zd_R_need_77 ?_
  refine lv_iload_n X.1 X.2.1 zd_R_need_80 rfl (lv_at hl 2 rfl) ?_
  refine lv_dup2_11 X.1 X.2.1 zd_R_need_81 rfl rfl ?_
  refine l_mR_needMany X hP (by omega) zd_R_need_82 ?_
  refine z_top (y := (nI (mR_needMany σ n))) rfl ?_
  refine lv_iconst (v := nI 1) X.1 X.2.1 zd_R_need_83 (by decide) ?_
  refine lv_iadd X.1 X.2.1 zd_R_need_84 ?_
  refine z_top (nI_add _ _) ?_
  refine s_mR_needMany X hD hP hS (by omega) zd_R_need_85 (fun H locs hP hS => ?_)
  have hP : va_P K.1 zcl (mW K G (p_mR_needMany (p_mR_needs (p_mR_thrown σ 0) (upN (mR_needs σ) ((3 * n) + (mR_needMany σ n)) o)) (upN (mR_needMany σ) n ((mR_needMany σ n) + 1)))) H := hP
  refine lv_iconst (v := nI 0) X.1 X.2.1 zd_R_need_86 (by decide) ?_
  refine lv_istore (lv' := [(4, .int (nI 0)), (3, .int (mBits σ n)), (0, .ref (G 0)), (1, .int (nI n)), (2, .int (nI o))]) X.1 X.2.1 zd_R_need_87 hl (by decide) rfl (fun ls hl => ?_)
  exact q_R_need l K G A hD X hr hml hlocks (mNeed0 σ n o) n o _ hB2 hm (mR_aspects σ) 0 (Nat.zero_add _) _ rfl H locs ls hP hS (lv_sub hl [0, 1, 2, 3, 4] rfl)

