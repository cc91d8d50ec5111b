/-! contracts of the reference, third part: what goOn calls (by program: wip/gen/r3.py) -/
/-- the place of a doing -/
abbrev mPl (σ : mS) (t a : Nat) : Nat := (t * 8 + a) * 16 + mR_setting σ
def mPush (σ : mS) (t a : Nat) : mS := p_mR_heap (p_mR_heapAspect (p_mR_heapTarget σ (upN (mR_heapTarget σ) (mR_heap σ) t)) (upN (mR_heapAspect σ) (mR_heap σ) a)) (mR_heap σ + 1)
/-- the first need from the i-th on that isn't known is pushed -/
def mWN (σ : mS) (t a : Nat) : Nat → Nat → Nat × mS
  | 0, _ => (0, σ)
  | j + 1, i => if mR_known σ (mPl σ t (mR_needs σ (3 * a + i))) = 0 then (1, mPush σ t (mR_needs σ (3 * a + i))) else mWN σ t a j (i + 1)
def mOf (σ : mS) (t a : Nat) : Nat → Int32
  | 0 => mR_providers σ t
  | i + 1 => mOf σ t a i ||| (if mR_known σ (mPl σ t (mR_needs σ (3 * a + i))) = 2 then mR_gives σ (mR_needs σ (3 * a + i)) else nI 0)
def mAll (σ : mS) (t a : Nat) : Nat := if mR_wants σ a &&& (mOf σ t a (mR_needMany σ a) ^^^ (-1)) = 0 then 1 else 0
def mBit (σ : mS) (a z : Nat) : Prop := (mR_along σ a >>> (nI z &&& 31)) &&& nI 1 = nI 1
/-- what lies at a place of a row, in the end -/
abbrev mU (σ : mS) (t z i : Nat) : Nat := mR_standsFor σ (mR_row σ (12 * t + 4 * z + i))
def mWTi (σ : mS) (t a z : Nat) : Nat → Nat → Nat × mS
  | 0, _ => (0, σ)
  | j + 1, i => if mR_known σ (mPl σ (mU σ t z i) a) = 0 then (1, mPush σ (mU σ t z i) a) else mWTi σ t a z j (i + 1)
noncomputable def mWT (σ : mS) (t a : Nat) : Nat → Nat → Nat × mS
  | 0, _ => (0, σ)
  | j + 1, z => if (mR_along σ a >>> (nI z &&& 31)) &&& nI 1 = nI 1 then (if (mWTi σ t a z (mR_rowSize σ (3 * t + z)) 0).1 = 0 then mWT σ t a j (z + 1) else mWTi σ t a z (mR_rowSize σ (3 * t + z)) 0) else mWT σ t a j (z + 1)
def mWith (kd : Nat) (x y : Int64) : Int64 := if kd = 1 then (if lg_cmp y x ≤ 0 then x else y) else if kd = 2 then 31 * x + y else x + y
def mPart (σ : mS) (kd : Nat) (x : Int64) (q : Nat) : Int64 := if mR_known σ q = 2 then mWith kd x (mR_results σ q) else x
def mRi (σ : mS) (t a z : Nat) (x : Int64) : Nat → Int64
  | 0 => x
  | i + 1 => mPart σ (mR_kind σ a) (mRi σ t a z x i) (mPl σ (mU σ t z i) a)
def mRo (σ : mS) (t a : Nat) (x : Int64) : Nat → Int64
  | 0 => x
  | z + 1 => if (mR_along σ a >>> (nI z &&& 31)) &&& nI 1 = nI 1 then mRi σ t a z (mRo σ t a x z) (mR_rowSize σ (3 * t + z)) else mRo σ t a x z
def mRn (σ : mS) (t a : Nat) (x : Int64) : Nat → Int64
  | 0 => x
  | i + 1 => mPart σ (mR_kind σ a) (mRn σ t a x i) (mPl σ t (mR_needs σ (3 * a + i)))
def mRes (σ : mS) (t a : Nat) : Int64 := if mR_kind σ a = 3 then mRo σ t a 1 3 else mRn σ t a (mRo σ t a (mR_value σ t + (nI (mR_setting σ)).toInt64) 3) (mR_needMany σ a)
def mTell (σ : mS) (t a q n : Nat) : mS := p_mR_clashTold σ (upd (upd (upd (upd (upd (mR_clashTold σ) 0 (nI t)) 1 (nI a)) 2 (nI (mR_setting σ))) 3 (nI (n / 16))) 4 (nI (n % 16)))
def mMakes (σ : mS) (t a : Nat) : Nat × mS := if mR_nameOf σ a = -1 then (1, σ) else if mR_madeBy σ (10 * t + (mR_nameOf σ a).toNatClampNeg) = -1 ∨ mR_madeBy σ (10 * t + (mR_nameOf σ a).toNatClampNeg) = nI (16 * a + mR_setting σ) then (1, p_mR_madeBy σ (upd (mR_madeBy σ) (10 * t + (mR_nameOf σ a).toNatClampNeg) (nI (16 * a + mR_setting σ)))) else (0, mTell σ t a (mR_nameOf σ a).toNatClampNeg (mR_madeBy σ (10 * t + (mR_nameOf σ a).toNatClampNeg)).toNatClampNeg)
theorem mWN_0 {σ : mS} {t a : Nat} : ∀ {j i : Nat}, (mWN σ t a j i).1 = 0 → (mWN σ t a j i).2 = σ := by
  intro j
  induction j with
  | zero => intro i h; rfl
  | succ j ih =>
    intro i h
    rw [mWN] at h ⊢
    split at h
    · exact absurd h Nat.one_ne_zero
    · rename_i h1
      rw [if_neg h1]
      exact ih h
theorem mWN_le {σ : mS} {t a : Nat} : ∀ (j i : Nat), (mWN σ t a j i).1 ≤ 1 := by
  intro j
  induction j with
  | zero => intro i; exact Nat.zero_le 1
  | succ j ih =>
    intro i
    rw [mWN]
    split
    · exact Nat.le_refl 1
    · exact ih _
theorem mWTi_0 {σ : mS} {t a z : Nat} : ∀ {j i : Nat}, (mWTi σ t a z j i).1 = 0 → (mWTi σ t a z j i).2 = σ := by
  intro j
  induction j with
  | zero => intro i h; rfl
  | succ j ih =>
    intro i h
    rw [mWTi] at h ⊢
    split at h
    · exact absurd h Nat.one_ne_zero
    · rename_i h1
      rw [if_neg h1]
      exact ih h
theorem mWTi_le {σ : mS} {t a z : Nat} : ∀ (j i : Nat), (mWTi σ t a z j i).1 ≤ 1 := by
  intro j
  induction j with
  | zero => intro i; exact Nat.zero_le 1
  | succ j ih =>
    intro i
    rw [mWTi]
    split
    · exact Nat.le_refl 1
    · exact ih _
theorem mWT_0 {σ : mS} {t a : Nat} : ∀ {j z : Nat}, (mWT σ t a j z).1 = 0 → (mWT σ t a j z).2 = σ := by
  intro j
  induction j with
  | zero => intro i h; rfl
  | succ j ih =>
    intro z h
    rw [mWT] at h ⊢
    split at h
    · rename_i h1
      rw [if_pos h1]
      split at h
      · rename_i h2
        rw [if_pos h2]
        exact ih h
      · rename_i h2
        exact absurd h h2
    · rename_i h1
      rw [if_neg h1]
      exact ih h
theorem mWT_le {σ : mS} {t a : Nat} : ∀ (j z : Nat), (mWT σ t a j z).1 ≤ 1 := by
  intro j
  induction j with
  | zero => intro i; exact Nat.zero_le 1
  | succ j ih =>
    intro z
    rw [mWT]
    split
    · split
      · exact ih _
      · exact mWTi_le _ _
    · exact ih _
theorem mAll_lt (σ : mS) (t a : Nat) : mAll σ t a < 2 ^ 31 := by unfold mAll; split <;> decide
theorem mMakes_lt (σ : mS) (t a : Nat) : (mMakes σ t a).1 < 2 ^ 31 := by unfold mMakes; split <;> (try split) <;> (dsimp only; decide)

set_option maxHeartbeats 4000000 in
set_option maxRecDepth 100000 in
/-- push(t, a) -/
theorem r_push (l : Launch) (K : zK) (G : Nat → Nat) (A : Nat → Prop) (hD : ∀ σ, va_D A (mW K G σ)) (σ : mS) (t a : Nat) (hh : mR_heap σ < 170) : zMet l K A zy_R_push zws_R_push 0 [.ref (G 0), .int (nI t), .int (nI a)] (mW K G σ) (mW K G (mPush σ t a)) none := by
  refine z_entry (by decide) (Nat.le_of_ble_eq_true rfl) ?_
  intro p e s m below meth c ls X hr hml hlocks hP hl
  have hS : va_S A s.heap s.heap [] := va_S.rf
  have hl : lv_has ls 3 [(0, .ref (G 0)), (1, .int (nI t)), (2, .int (nI a))] := hl
  refine lv_aload_n X.1 X.2.1 zd_R_push_0 rfl (lv_at hl 0 rfl) ?_
  refine g_mR_heapTarget X hP zd_R_push_1 ?_
  refine lv_aload_n X.1 X.2.1 zd_R_push_4 rfl (lv_at hl 0 rfl) ?_
  refine g_mR_heap X hP zd_R_push_5 ?_
  refine lv_iload_n X.1 X.2.1 zd_R_push_8 rfl (lv_at hl 1 rfl) ?_
  refine s_mR_heapTarget X hD hP hS (by omega) zd_R_push_9 (fun H locs hP hS => ?_)
  have hP : va_P K.1 zcl (mW K G (p_mR_heapTarget σ (upN (mR_heapTarget σ) (mR_heap σ) t))) H := hP
  refine lv_aload_n X.1 X.2.1 zd_R_push_10 rfl (lv_at hl 0 rfl) ?_
  refine g_mR_heapAspect X hP zd_R_push_11 ?_
  refine lv_aload_n X.1 X.2.1 zd_R_push_14 rfl (lv_at hl 0 rfl) ?_
  refine g_mR_heap X hP zd_R_push_15 ?_
  refine z_top (y := (nI (mR_heap σ))) rfl ?_
  refine lv_iload_n X.1 X.2.1 zd_R_push_18 rfl (lv_at hl 2 rfl) ?_
  refine s_mR_heapAspect X hD hP hS (by omega) zd_R_push_19 (fun H locs hP hS => ?_)
  have hP : va_P K.1 zcl (mW K G (p_mR_heapAspect (p_mR_heapTarget σ (upN (mR_heapTarget σ) (mR_heap σ) t)) (upN (mR_heapAspect σ) (mR_heap σ) a))) H := hP
  refine lv_aload_n X.1 X.2.1 zd_R_push_20 rfl (lv_at hl 0 rfl) ?_
  refine lv_dup X.1 X.2.1 zd_R_push_21 rfl ?_
  refine g_mR_heap X hP zd_R_push_22 ?_
  refine z_top (y := (nI (mR_heap σ))) rfl ?_
  refine lv_iconst (v := nI 1) X.1 X.2.1 zd_R_push_25 (by decide) ?_
  refine lv_iadd X.1 X.2.1 zd_R_push_26 ?_
  refine z_top (nI_add _ _) ?_
  refine s_mR_heap X hD hP hS zd_R_push_27 (fun H locs hP hS => ?_)
  have hP : va_P K.1 zcl (mW K G (p_mR_heap (p_mR_heapAspect (p_mR_heapTarget σ (upN (mR_heapTarget σ) (mR_heap σ) t)) (upN (mR_heapAspect σ) (mR_heap σ) a)) ((mR_heap σ) + 1))) H := hP
  exact z_vret X.1 X.2.1 hr hlocks rfl hP hS zd_R_push_30

set_option maxHeartbeats 4000000 in
set_option maxRecDepth 100000 in
/-- waitsForNeed's loop -/
theorem q_R_waitsForNeed {p : Program} {e : Env} {s : State} {m : MethodId} {args : Array Value} {below : List Frame} {meth : Method} {c : Code} (l : Launch) (K : zK) (G : Nat → Nat) (A : Nat → Prop) (hD : ∀ σ, va_D A (mW K G σ)) (X : zFx K zR_R zb_R_waitsForNeed p s m args c) (hr : meth.sig.returnType = some .boolean) (hml : c.maxLocals = 5) (hlocks : meth.locks = false) (σ : mS) (t a : Nat) (ht : t < 20) (ha : a < 8) (hB : mB σ) (hk : mR_setting σ < 16) (hh : mR_heap σ < 170) (hkn2 : ∀ q, mR_known σ q ≤ 2) : ∀ (j i : Nat), i + j = mR_needMany σ a → ∀ (H : Heap) (locs : List Loc) (ls : Array Slot), va_P K.1 zcl (mW K G σ) H → va_S A s.heap H locs → lv_has ls 5 [(3, .int (nI i)), (0, .ref (G 0)), (1, .int (nI t)), (2, .int (nI a))] → W p l e (zrm 1) s m args below meth c H locs 0 0 (MQ below (zPost K A (mW K G (mWN σ t a j i).2) (some (.int (nI (mWN σ t a j i).1)))) args s 0 0 A) (F0 m 2 ls []) := by
  intro j
  induction j with
  | zero =>
    intro i hi H locs ls hP hS hl
    have h3 := hB.2.2.2.2.2.2.1 a
    have h8 := hB.2.2.2.2.2.1 (3 * a + i)
    have hkn := hkn2 ((t * 8 + mR_needs σ (3 * a + i)) * 16 + mR_setting σ)
    refine lv_iload_n X.1 X.2.1 zd_R_waitsForNeed_2 rfl (lv_at hl 0 rfl) ?_
    refine lv_aload_n X.1 X.2.1 zd_R_waitsForNeed_3 rfl (lv_at hl 1 rfl) ?_
    refine g_mR_needMany X hP zd_R_waitsForNeed_4 ?_
    refine lv_iload_n X.1 X.2.1 zd_R_waitsForNeed_7 rfl (lv_at hl 3 rfl) ?_
    refine l_mR_needMany X hP (by omega) zd_R_waitsForNeed_8 ?_
    refine lv_icmp_ge (tgt := 60) X.1 X.2.1 zd_R_waitsForNeed_9 (by decide) (fun _ => ?_) (fun h9 => absurd (by rw [nI_leI (by omega) (by omega)]; omega) h9)
    refine lv_iconst (v := nI 0) X.1 X.2.1 zd_R_waitsForNeed_60 (by decide) ?_
    exact z_zret X.1 X.2.1 hr hlocks (Or.inl rfl) rfl rfl hP hS zd_R_waitsForNeed_61
  | succ j ih =>
    intro i hi H locs ls hP hS hl
    have h3 := hB.2.2.2.2.2.2.1 a
    have h8 := hB.2.2.2.2.2.1 (3 * a + i)
    have hkn := hkn2 ((t * 8 + mR_needs σ (3 * a + i)) * 16 + mR_setting σ)
    refine lv_iload_n X.1 X.2.1 zd_R_waitsForNeed_2 rfl (lv_at hl 0 rfl) ?_
    refine lv_aload_n X.1 X.2.1 zd_R_waitsForNeed_3 rfl (lv_at hl 1 rfl) ?_
    refine g_mR_needMany X hP zd_R_waitsForNeed_4 ?_
    refine lv_iload_n X.1 X.2.1 zd_R_waitsForNeed_7 rfl (lv_at hl 3 rfl) ?_
    refine l_mR_needMany X hP (by omega) zd_R_waitsForNeed_8 ?_
    refine lv_icmp_ge (tgt := 60) X.1 X.2.1 zd_R_waitsForNeed_9 (by decide) (fun h9 => absurd h9 (by rw [nI_leI (by omega) (by omega)]; omega)) (fun _ => ?_)
    refine lv_aload_n X.1 X.2.1 zd_R_waitsForNeed_12 rfl (lv_at hl 1 rfl) ?_
    refine g_mR_needs X hP zd_R_waitsForNeed_13 ?_
    refine lv_iconst (v := nI 3) X.1 X.2.1 zd_R_waitsForNeed_16 (by decide) ?_
    refine lv_iload_n X.1 X.2.1 zd_R_waitsForNeed_17 rfl (lv_at hl 3 rfl) ?_
    refine lv_imul X.1 X.2.1 zd_R_waitsForNeed_18 ?_
    refine z_top (pk_mul _ _) ?_
    refine lv_iload_n X.1 X.2.1 zd_R_waitsForNeed_19 rfl (lv_at hl 0 rfl) ?_
    refine lv_iadd X.1 X.2.1 zd_R_waitsForNeed_20 ?_
    refine z_top (nI_add _ _) ?_
    refine l_mR_needs X hP (by omega) zd_R_waitsForNeed_21 ?_
    refine lv_istore (lv' := [(4, .int (nI (mR_needs σ ((3 * a) + i)))), (3, .int (nI i)), (0, .ref (G 0)), (1, .int (nI t)), (2, .int (nI a))]) X.1 X.2.1 zd_R_waitsForNeed_22 hl (by decide) rfl (fun ls hl => ?_)
    refine lv_aload_n X.1 X.2.1 zd_R_waitsForNeed_24 rfl (lv_at hl 2 rfl) ?_
    refine g_mR_known X hP zd_R_waitsForNeed_25 ?_
    refine lv_iload_n X.1 X.2.1 zd_R_waitsForNeed_28 rfl (lv_at hl 3 rfl) ?_
    refine lv_iload X.1 X.2.1 zd_R_waitsForNeed_29 (lv_at hl 0 rfl) ?_
    refine lv_aload_n X.1 X.2.1 zd_R_waitsForNeed_31 rfl (lv_at hl 2 rfl) ?_
    refine g_mR_setting X hP zd_R_waitsForNeed_32 ?_
    refine z_callSi (As := [.int (nI t), .int (nI (mR_needs σ ((3 * a) + i))), .int (nI (mR_setting σ))]) (rest := [.ref (G 13)]) X hml (r_placeOf l K G A hD σ t (mR_needs σ ((3 * a) + i)) (mR_setting σ)) (zk_R_103 X.2.2.2.1 (z_rm (by omega) (by decide))) hP hS rfl hl.1 rfl (Nat.le_of_ble_eq_true rfl) zd_R_waitsForNeed_35 ⟨Nat.zero_le _, Nat.zero_le _⟩ (fun H locs hP hS => ?_)
    refine l_mR_known X hP (by omega) zd_R_waitsForNeed_38 ?_
    refine lv_if_eq (tgt := 45) X.1 X.2.1 zd_R_waitsForNeed_39 (by decide) (fun c1 => ?_) (fun c1 => ?_)
    · rw [z_eq0 (by omega)] at c1
      refine lv_aload_n X.1 X.2.1 zd_R_waitsForNeed_45 rfl (lv_at hl 2 rfl) ?_
      refine lv_iload_n X.1 X.2.1 zd_R_waitsForNeed_46 rfl (lv_at hl 3 rfl) ?_
      refine lv_iload X.1 X.2.1 zd_R_waitsForNeed_47 (lv_at hl 0 rfl) ?_
      refine z_callVv (As := [.int (nI t), .int (nI (mR_needs σ ((3 * a) + i)))]) (rest := []) (q0 := 0) (ci := 4) X hml (r_push l K G A hD σ t (mR_needs σ ((3 * a) + i)) hh) (zk_R_123 X.2.2.2.1 (z_rm (by omega) (by decide))) rfl rfl rfl hP hS rfl hl.1 rfl (Nat.le_of_ble_eq_true rfl) zd_R_waitsForNeed_49 ⟨Nat.zero_le _, Nat.zero_le _⟩ (fun H locs hP hS => ?_)
      refine lv_iconst (v := nI 1) X.1 X.2.1 zd_R_waitsForNeed_52 (by decide) ?_
      rw [show mWN σ t a (j + 1) i = (1, mPush σ t (mR_needs σ (3 * a + i))) from by rw [mWN]; exact if_pos c1]
      exact z_zret X.1 X.2.1 hr hlocks (Or.inr rfl) rfl rfl hP hS zd_R_waitsForNeed_53
    · rw [z_eq0 (by omega)] at c1
      refine lv_goto (tgt := 54) X.1 X.2.1 zd_R_waitsForNeed_42 (by decide) ?_
      refine lv_iinc (v := nI (i + 1)) (lv' := [(3, .int (nI (i + 1))), (4, .int (nI (mR_needs σ ((3 * a) + i)))), (0, .ref (G 0)), (1, .int (nI t)), (2, .int (nI a))]) X.1 X.2.1 zd_R_waitsForNeed_54 hl (k := 1) rfl (nI_1 _) (by decide) rfl (fun ls hl => ?_)
      refine lv_goto (tgt := 2) X.1 X.2.1 zd_R_waitsForNeed_57 (by decide) ?_
      rw [show mWN σ t a (j + 1) i = mWN σ t a j (i + 1) from by rw [mWN]; exact if_neg c1]
      exact ih (i + 1) (by omega) H locs ls hP hS (lv_sub hl [0, 2, 3, 4] rfl)

set_option maxHeartbeats 4000000 in
set_option maxRecDepth 100000 in
/-- waitsForNeed(t, a) -/
theorem r_waitsForNeed (l : Launch) (K : zK) (G : Nat → Nat) (A : Nat → Prop) (hD : ∀ σ, va_D A (mW K G σ)) (σ : mS) (t a : Nat) (ht : t < 20) (ha : a < 8) (hB : mB σ) (hk : mR_setting σ < 16) (hh : mR_heap σ < 170) (hkn2 : ∀ q, mR_known σ q ≤ 2) : zMet l K A zy_R_waitsForNeed zws_R_waitsForNeed 1 [.ref (G 0), .int (nI t), .int (nI a)] (mW K G σ) (mW K G ((mWN σ t a (mR_needMany σ a) 0).2)) (some (.int (nI ((mWN σ t a (mR_needMany σ a) 0).1)))) := by
  refine z_entry (by decide) (Nat.le_of_ble_eq_true rfl) ?_
  intro p e s m below meth c ls X hr hml hlocks hP hl
  have hS : va_S A s.heap s.heap [] := va_S.rf
  have hl : lv_has ls 5 [(0, .ref (G 0)), (1, .int (nI t)), (2, .int (nI a))] := hl
  refine lv_iconst (v := nI 0) X.1 X.2.1 zd_R_waitsForNeed_0 (by decide) ?_
  refine lv_istore_n (lv' := [(3, .int (nI 0)), (0, .ref (G 0)), (1, .int (nI t)), (2, .int (nI a))]) X.1 X.2.1 zd_R_waitsForNeed_1 rfl hl (by decide) rfl (fun ls hl => ?_)
  exact q_R_waitsForNeed l K G A hD X hr hml hlocks σ t a ht ha hB hk hh hkn2 (mR_needMany σ a) 0 (Nat.zero_add _) s.heap [] ls hP hS (lv_sub hl [0, 1, 2, 3] rfl)

set_option maxHeartbeats 4000000 in
set_option maxRecDepth 100000 in
/-- hasAllWanted's loop -/
theorem q_R_hasAllWanted {p : Program} {e : Env} {s : State} {m : MethodId} {args : Array Value} {below : List Frame} {meth : Method} {c : Code} (l : Launch) (K : zK) (G : Nat → Nat) (A : Nat → Prop) (hD : ∀ σ, va_D A (mW K G σ)) (X : zFx K zR_R zb_R_hasAllWanted p s m args c) (hr : meth.sig.returnType = (some .boolean)) (hml : c.maxLocals = 6) (hlocks : meth.locks = false) (σ : mS) (t a : Nat) (ht : t < 20) (ha : a < 8) (hB : mB σ) (hk : mR_setting σ < 16) (hkn2 : ∀ q, mR_known σ q ≤ 2) : ∀ (j i : Nat), i + j = mR_needMany σ a → ∀ (H : Heap) (locs : List Loc) (ls : Array Slot), va_P K.1 zcl (mW K G σ) H → va_S A s.heap H locs → lv_has ls 6 [(4, .int (nI i)), (3, .int (mOf σ t a i)), (0, .ref (G 0)), (1, .int (nI t)), (2, .int (nI a))] → W p l e (zrm 1) s m args below meth c H locs 0 0 (MQ below (zPost K A (mW K G σ) (some (.int (nI (mAll σ t a))))) args s 0 0 A) (F0 m 10 ls []) := by
  intro j
  induction j with
  | zero =>
    intro i hi H locs ls hP hS hl
    have h3 := hB.2.2.2.2.2.2.1 a
    have h8 := hB.2.2.2.2.2.1 (3 * a + i)
    have hkn := hkn2 ((t * 8 + mR_needs σ (3 * a + i)) * 16 + mR_setting σ)
    refine lv_iload X.1 X.2.1 zd_R_hasAllWanted_10 (lv_at hl 0 rfl) ?_
    refine lv_aload_n X.1 X.2.1 zd_R_hasAllWanted_12 rfl (lv_at hl 2 rfl) ?_
    refine g_mR_needMany X hP zd_R_hasAllWanted_13 ?_
    refine lv_iload_n X.1 X.2.1 zd_R_hasAllWanted_16 rfl (lv_at hl 4 rfl) ?_
    refine l_mR_needMany X hP (by omega) zd_R_hasAllWanted_17 ?_
    refine lv_icmp_ge (tgt := 73) X.1 X.2.1 zd_R_hasAllWanted_18 (by decide) (fun _ => ?_) (fun h9 => absurd (by rw [nI_leI (by omega) (by omega)]; omega) h9)
    refine lv_aload_n X.1 X.2.1 zd_R_hasAllWanted_73 rfl (lv_at hl 2 rfl) ?_
    refine g_mR_wants X hP zd_R_hasAllWanted_74 ?_
    refine lv_iload_n X.1 X.2.1 zd_R_hasAllWanted_77 rfl (lv_at hl 4 rfl) ?_
    refine l_mR_wants X hP (by omega) zd_R_hasAllWanted_78 ?_
    refine lv_iload_n X.1 X.2.1 zd_R_hasAllWanted_79 rfl (lv_at hl 1 rfl) ?_
    refine lv_iconst (v := -1) X.1 X.2.1 zd_R_hasAllWanted_80 (by decide) ?_
    refine lv_ixor X.1 X.2.1 zd_R_hasAllWanted_81 ?_
    refine lv_iand X.1 X.2.1 zd_R_hasAllWanted_82 ?_
    refine lv_if_ne (tgt := 90) X.1 X.2.1 zd_R_hasAllWanted_83 (by decide) (fun c1 => ?_) (fun c1 => ?_)
    · refine lv_iconst (v := nI 0) X.1 X.2.1 zd_R_hasAllWanted_90 (by decide) ?_
      exact z_zret X.1 X.2.1 hr hlocks (Or.inl rfl) (by rw [mAll, show mR_needMany σ a = i by omega, if_neg c1]) rfl hP hS zd_R_hasAllWanted_91
    · refine lv_iconst (v := nI 1) X.1 X.2.1 zd_R_hasAllWanted_86 (by decide) ?_
      refine lv_goto (tgt := 91) X.1 X.2.1 zd_R_hasAllWanted_87 (by decide) ?_
      exact z_zret X.1 X.2.1 hr hlocks (Or.inr rfl) (by rw [mAll, show mR_needMany σ a = i by omega, if_pos c1]) rfl hP hS zd_R_hasAllWanted_91
  | succ j ih =>
    intro i hi H locs ls hP hS hl
    have h3 := hB.2.2.2.2.2.2.1 a
    have h8 := hB.2.2.2.2.2.1 (3 * a + i)
    have hkn := hkn2 ((t * 8 + mR_needs σ (3 * a + i)) * 16 + mR_setting σ)
    refine lv_iload X.1 X.2.1 zd_R_hasAllWanted_10 (lv_at hl 0 rfl) ?_
    refine lv_aload_n X.1 X.2.1 zd_R_hasAllWanted_12 rfl (lv_at hl 2 rfl) ?_
    refine g_mR_needMany X hP zd_R_hasAllWanted_13 ?_
    refine lv_iload_n X.1 X.2.1 zd_R_hasAllWanted_16 rfl (lv_at hl 4 rfl) ?_
    refine l_mR_needMany X hP (by omega) zd_R_hasAllWanted_17 ?_
    refine lv_icmp_ge (tgt := 73) X.1 X.2.1 zd_R_hasAllWanted_18 (by decide) (fun h9 => absurd h9 (by rw [nI_leI (by omega) (by omega)]; omega)) (fun _ => ?_)
    refine lv_aload_n X.1 X.2.1 zd_R_hasAllWanted_21 rfl (lv_at hl 2 rfl) ?_
    refine g_mR_needs X hP zd_R_hasAllWanted_22 ?_
    refine lv_iconst (v := nI 3) X.1 X.2.1 zd_R_hasAllWanted_25 (by decide) ?_
    refine lv_iload_n X.1 X.2.1 zd_R_hasAllWanted_26 rfl (lv_at hl 4 rfl) ?_
    refine lv_imul X.1 X.2.1 zd_R_hasAllWanted_27 ?_
    refine z_top (pk_mul _ _) ?_
    refine lv_iload X.1 X.2.1 zd_R_hasAllWanted_28 (lv_at hl 0 rfl) ?_
    refine lv_iadd X.1 X.2.1 zd_R_hasAllWanted_30 ?_
    refine z_top (nI_add _ _) ?_
    refine l_mR_needs X hP (by omega) zd_R_hasAllWanted_31 ?_
    refine lv_istore (lv' := [(5, .int (nI (mR_needs σ ((3 * a) + i)))), (4, .int (nI i)), (3, .int (mOf σ t a i)), (0, .ref (G 0)), (1, .int (nI t)), (2, .int (nI a))]) X.1 X.2.1 zd_R_hasAllWanted_32 hl (by decide) rfl (fun ls hl => ?_)
    refine lv_iload_n X.1 X.2.1 zd_R_hasAllWanted_34 rfl (lv_at hl 2 rfl) ?_
    refine lv_aload_n X.1 X.2.1 zd_R_hasAllWanted_35 rfl (lv_at hl 3 rfl) ?_
    refine g_mR_known X hP zd_R_hasAllWanted_36 ?_
    refine lv_iload_n X.1 X.2.1 zd_R_hasAllWanted_39 rfl (lv_at hl 4 rfl) ?_
    refine lv_iload X.1 X.2.1 zd_R_hasAllWanted_40 (lv_at hl 0 rfl) ?_
    refine lv_aload_n X.1 X.2.1 zd_R_hasAllWanted_42 rfl (lv_at hl 3 rfl) ?_
    refine g_mR_setting X hP zd_R_hasAllWanted_43 ?_
    refine z_callSi (As := [.int (nI t), .int (nI (mR_needs σ ((3 * a) + i))), .int (nI (mR_setting σ))]) (rest := [.ref (G 13), .int (mOf σ t a i)]) X hml (r_placeOf l K G A hD σ t (mR_needs σ ((3 * a) + i)) (mR_setting σ)) (zk_R_103 X.2.2.2.1 (z_rm (by omega) (by decide))) hP hS rfl hl.1 rfl (Nat.le_of_ble_eq_true rfl) zd_R_hasAllWanted_46 ⟨Nat.zero_le _, Nat.zero_le _⟩ (fun H locs hP hS => ?_)
    refine l_mR_known X hP (by omega) zd_R_hasAllWanted_49 ?_
    refine lv_iconst (v := nI 2) X.1 X.2.1 zd_R_hasAllWanted_50 (by decide) ?_
    refine lv_icmp_ne (tgt := 64) X.1 X.2.1 zd_R_hasAllWanted_51 (by decide) (fun c1 => ?_) (fun c1 => ?_)
    · rw [nI_eq (by omega) (by omega)] at c1
      refine lv_iconst (v := nI 0) X.1 X.2.1 zd_R_hasAllWanted_64 (by decide) ?_
      refine lv_ior X.1 X.2.1 zd_R_hasAllWanted_65 ?_
      refine lv_istore_n (lv' := [(3, .int ((mOf σ t a i) ||| (nI 0))), (5, .int (nI (mR_needs σ ((3 * a) + i)))), (4, .int (nI i)), (0, .ref (G 0)), (1, .int (nI t)), (2, .int (nI a))]) X.1 X.2.1 zd_R_hasAllWanted_66 rfl hl (by decide) rfl (fun ls hl => ?_)
      refine lv_iinc (v := nI (i + 1)) (lv' := [(4, .int (nI (i + 1))), (3, .int ((mOf σ t a i) ||| (nI 0))), (5, .int (nI (mR_needs σ ((3 * a) + i)))), (0, .ref (G 0)), (1, .int (nI t)), (2, .int (nI a))]) X.1 X.2.1 zd_R_hasAllWanted_67 hl (k := 2) rfl (nI_1 _) (by decide) rfl (fun ls hl => ?_)
      refine lv_goto (tgt := 10) X.1 X.2.1 zd_R_hasAllWanted_70 (by decide) ?_
      exact ih (i + 1) (by omega) H locs ls hP hS (by rw [show mOf σ t a (i + 1) = (mOf σ t a i) ||| (nI 0) from (by rw [mOf]; simp only [if_neg c1])]; exact lv_sub hl [0, 1, 3, 4, 5] rfl)
    · rw [nI_eq (by omega) (by omega)] at c1
      refine lv_aload_n X.1 X.2.1 zd_R_hasAllWanted_54 rfl (lv_at hl 3 rfl) ?_
      refine g_mR_gives X hP zd_R_hasAllWanted_55 ?_
      refine lv_iload X.1 X.2.1 zd_R_hasAllWanted_58 (lv_at hl 0 rfl) ?_
      refine l_mR_gives X hP (by omega) zd_R_hasAllWanted_60 ?_
      refine lv_goto (tgt := 65) X.1 X.2.1 zd_R_hasAllWanted_61 (by decide) ?_
      refine lv_ior X.1 X.2.1 zd_R_hasAllWanted_65 ?_
      refine lv_istore_n (lv' := [(3, .int ((mOf σ t a i) ||| (mR_gives σ (mR_needs σ ((3 * a) + i))))), (5, .int (nI (mR_needs σ ((3 * a) + i)))), (4, .int (nI i)), (0, .ref (G 0)), (1, .int (nI t)), (2, .int (nI a))]) X.1 X.2.1 zd_R_hasAllWanted_66 rfl hl (by decide) rfl (fun ls hl => ?_)
      refine lv_iinc (v := nI (i + 1)) (lv' := [(4, .int (nI (i + 1))), (3, .int ((mOf σ t a i) ||| (mR_gives σ (mR_needs σ ((3 * a) + i))))), (5, .int (nI (mR_needs σ ((3 * a) + i)))), (0, .ref (G 0)), (1, .int (nI t)), (2, .int (nI a))]) X.1 X.2.1 zd_R_hasAllWanted_67 hl (k := 2) rfl (nI_1 _) (by decide) rfl (fun ls hl => ?_)
      refine lv_goto (tgt := 10) X.1 X.2.1 zd_R_hasAllWanted_70 (by decide) ?_
      exact ih (i + 1) (by omega) H locs ls hP hS (by rw [show mOf σ t a (i + 1) = (mOf σ t a i) ||| (mR_gives σ (mR_needs σ ((3 * a) + i))) from (by rw [mOf]; simp only [if_pos c1])]; exact lv_sub hl [0, 1, 3, 4, 5] rfl)

set_option maxHeartbeats 4000000 in
set_option maxRecDepth 100000 in
/-- hasAllWanted(t, a) -/
theorem r_hasAllWanted (l : Launch) (K : zK) (G : Nat → Nat) (A : Nat → Prop) (hD : ∀ σ, va_D A (mW K G σ)) (σ : mS) (t a : Nat) (ht : t < 20) (ha : a < 8) (hB : mB σ) (hk : mR_setting σ < 16) (hkn2 : ∀ q, mR_known σ q ≤ 2) : zMet l K A zy_R_hasAllWanted zws_R_hasAllWanted 1 [.ref (G 0), .int (nI t), .int (nI a)] (mW K G σ) (mW K G σ) (some (.int (nI (mAll σ t a)))) := by
  refine z_entry (by decide) (Nat.le_of_ble_eq_true rfl) ?_
  intro p e s m below meth c ls X hr hml hlocks hP hl
  have hS : va_S A s.heap s.heap [] := va_S.rf
  have hl : lv_has ls 6 [(0, .ref (G 0)), (1, .int (nI t)), (2, .int (nI a))] := hl
  refine lv_aload_n X.1 X.2.1 zd_R_hasAllWanted_0 rfl (lv_at hl 0 rfl) ?_
  refine g_mR_providers X hP zd_R_hasAllWanted_1 ?_
  refine lv_iload_n X.1 X.2.1 zd_R_hasAllWanted_4 rfl (lv_at hl 1 rfl) ?_
  refine l_mR_providers X hP (by omega) zd_R_hasAllWanted_5 ?_
  refine lv_istore_n (lv' := [(3, .int (mR_providers σ t)), (0, .ref (G 0)), (1, .int (nI t)), (2, .int (nI a))]) X.1 X.2.1 zd_R_hasAllWanted_6 rfl hl (by decide) rfl (fun ls hl => ?_)
  refine lv_iconst (v := nI 0) X.1 X.2.1 zd_R_hasAllWanted_7 (by decide) ?_
  refine lv_istore (lv' := [(4, .int (nI 0)), (3, .int (mR_providers σ t)), (0, .ref (G 0)), (1, .int (nI t)), (2, .int (nI a))]) X.1 X.2.1 zd_R_hasAllWanted_8 hl (by decide) rfl (fun ls hl => ?_)
  exact q_R_hasAllWanted l K G A hD X hr hml hlocks σ t a ht ha hB hk hkn2 (mR_needMany σ a) 0 (Nat.zero_add _) s.heap [] ls hP hS (lv_sub hl [0, 1, 2, 3, 4] rfl)

set_option maxHeartbeats 4000000 in
set_option maxRecDepth 100000 in
/-- waitsForTarget's inner loop, where the aspect goes along -/
theorem q_R_waitsForTarget_i {p : Program} {e : Env} {s : State} {m : MethodId} {args : Array Value} {below : List Frame} {meth : Method} {c : Code} (l : Launch) (K : zK) (G : Nat → Nat) (A : Nat → Prop) (hD : ∀ σ, va_D A (mW K G σ)) (X : zFx K zR_R zb_R_waitsForTarget p s m args c) (hr : meth.sig.returnType = some .boolean) (hml : c.maxLocals = 6) (hlocks : meth.locks = false) (σ : mS) (t a : Nat) (ht : t < 20) (ha : a < 8) (hB : mB σ) (hk : mR_setting σ < 16) (hh : mR_heap σ < 170) (hkn2 : ∀ q, mR_known σ q ≤ 2) (z : Nat) (hz : z < 3) (hbit : (mR_along σ a >>> (nI z &&& 31)) &&& nI 1 = nI 1) (F : Nat × mS) : ∀ (j i : Nat), i + j = mR_rowSize σ (3 * t + z) → (¬ (mWTi σ t a z j i).1 = 0 → F = mWTi σ t a z j i) → ((mWTi σ t a z j i).1 = 0 → ∀ (H : Heap) (locs : List Loc) (ls : Array Slot), va_P K.1 zcl (mW K G σ) H → va_S A s.heap H locs → lv_has ls 6 [(3, .int (nI z)), (0, .ref (G 0)), (1, .int (nI t)), (2, .int (nI a))] → W p l e (zrm 1) s m args below meth c H locs 0 0 (MQ below (zPost K A (mW K G F.2) (some (.int (nI F.1)))) args s 0 0 A) (F0 m 98 ls [])) → ∀ (H : Heap) (locs : List Loc) (ls : Array Slot), va_P K.1 zcl (mW K G σ) H → va_S A s.heap H locs → lv_has ls 6 [(4, .int (nI i)), (3, .int (nI z)), (0, .ref (G 0)), (1, .int (nI t)), (2, .int (nI a))] → W p l e (zrm 1) s m args below meth c H locs 0 0 (MQ below (zPost K A (mW K G F.2) (some (.int (nI F.1)))) args s 0 0 A) (F0 m 10 ls []) := by
  intro j
  induction j with
  | zero =>
    intro i hi hF kont H locs ls hP hS hl
    have hr4 := hB.2.2.2.2.1 (3 * t + z)
    have hrw := hB.2.2.2.1 (12 * t + 4 * z + i)
    have hst := hB.2.2.1 (mR_row σ (12 * t + 4 * z + i))
    have hkn := hkn2 ((mR_standsFor σ (mR_row σ (12 * t + 4 * z + i)) * 8 + a) * 16 + mR_setting σ)
    refine lv_iload X.1 X.2.1 zd_R_waitsForTarget_10 (lv_at hl 0 rfl) ?_
    refine lv_aload_n X.1 X.2.1 zd_R_waitsForTarget_12 rfl (lv_at hl 2 rfl) ?_
    refine g_mR_rowSize X hP zd_R_waitsForTarget_13 ?_
    refine lv_iconst (v := nI 3) X.1 X.2.1 zd_R_waitsForTarget_16 (by decide) ?_
    refine lv_iload_n X.1 X.2.1 zd_R_waitsForTarget_17 rfl (lv_at hl 3 rfl) ?_
    refine lv_imul X.1 X.2.1 zd_R_waitsForTarget_18 ?_
    refine z_top (pk_mul _ _) ?_
    refine lv_iload_n X.1 X.2.1 zd_R_waitsForTarget_19 rfl (lv_at hl 1 rfl) ?_
    refine lv_iadd X.1 X.2.1 zd_R_waitsForTarget_20 ?_
    refine z_top (nI_add _ _) ?_
    refine l_mR_rowSize X hP (by omega) zd_R_waitsForTarget_21 ?_
    refine lv_icmp_ge (tgt := 98) X.1 X.2.1 zd_R_waitsForTarget_22 (by decide) (fun _ => ?_) (fun h9 => absurd (by rw [nI_leI (by omega) (by omega)]; omega) h9)
    exact kont rfl H locs ls hP hS (lv_sub hl [1, 2, 3, 4] rfl)
  | succ j ih =>
    intro i hi hF kont H locs ls hP hS hl
    have hr4 := hB.2.2.2.2.1 (3 * t + z)
    have hrw := hB.2.2.2.1 (12 * t + 4 * z + i)
    have hst := hB.2.2.1 (mR_row σ (12 * t + 4 * z + i))
    have hkn := hkn2 ((mR_standsFor σ (mR_row σ (12 * t + 4 * z + i)) * 8 + a) * 16 + mR_setting σ)
    refine lv_iload X.1 X.2.1 zd_R_waitsForTarget_10 (lv_at hl 0 rfl) ?_
    refine lv_aload_n X.1 X.2.1 zd_R_waitsForTarget_12 rfl (lv_at hl 2 rfl) ?_
    refine g_mR_rowSize X hP zd_R_waitsForTarget_13 ?_
    refine lv_iconst (v := nI 3) X.1 X.2.1 zd_R_waitsForTarget_16 (by decide) ?_
    refine lv_iload_n X.1 X.2.1 zd_R_waitsForTarget_17 rfl (lv_at hl 3 rfl) ?_
    refine lv_imul X.1 X.2.1 zd_R_waitsForTarget_18 ?_
    refine z_top (pk_mul _ _) ?_
    refine lv_iload_n X.1 X.2.1 zd_R_waitsForTarget_19 rfl (lv_at hl 1 rfl) ?_
    refine lv_iadd X.1 X.2.1 zd_R_waitsForTarget_20 ?_
    refine z_top (nI_add _ _) ?_
    refine l_mR_rowSize X hP (by omega) zd_R_waitsForTarget_21 ?_
    refine lv_icmp_ge (tgt := 98) X.1 X.2.1 zd_R_waitsForTarget_22 (by decide) (fun h9 => absurd h9 (by rw [nI_leI (by omega) (by omega)]; omega)) (fun _ => ?_)
    refine lv_aload_n X.1 X.2.1 zd_R_waitsForTarget_25 rfl (lv_at hl 2 rfl) ?_
    refine g_mR_along X hP zd_R_waitsForTarget_26 ?_
    refine lv_iload_n X.1 X.2.1 zd_R_waitsForTarget_29 rfl (lv_at hl 4 rfl) ?_
    refine l_mR_along X hP (by omega) zd_R_waitsForTarget_30 ?_
    refine lv_iload_n X.1 X.2.1 zd_R_waitsForTarget_31 rfl (lv_at hl 1 rfl) ?_
    refine lv_ishr X.1 X.2.1 zd_R_waitsForTarget_32 ?_
    refine lv_iconst (v := nI 1) X.1 X.2.1 zd_R_waitsForTarget_33 (by decide) ?_
    refine lv_iand X.1 X.2.1 zd_R_waitsForTarget_34 ?_
    refine lv_iconst (v := nI 1) X.1 X.2.1 zd_R_waitsForTarget_35 (by decide) ?_
    refine lv_icmp_ne (tgt := 98) X.1 X.2.1 zd_R_waitsForTarget_36 (by decide) (fun h9 => absurd hbit h9) (fun _ => ?_)
    refine lv_aload_n X.1 X.2.1 zd_R_waitsForTarget_39 rfl (lv_at hl 2 rfl) ?_
    refine g_mR_standsFor X hP zd_R_waitsForTarget_40 ?_
    refine lv_aload_n X.1 X.2.1 zd_R_waitsForTarget_43 rfl (lv_at hl 2 rfl) ?_
    refine g_mR_row X hP zd_R_waitsForTarget_44 ?_
    refine lv_bipush (v := nI 12) X.1 X.2.1 zd_R_waitsForTarget_47 (by decide) ?_
    refine lv_iload_n X.1 X.2.1 zd_R_waitsForTarget_49 rfl (lv_at hl 3 rfl) ?_
    refine lv_imul X.1 X.2.1 zd_R_waitsForTarget_50 ?_
    refine z_top (pk_mul _ _) ?_
    refine lv_iconst (v := nI 4) X.1 X.2.1 zd_R_waitsForTarget_51 (by decide) ?_
    refine lv_iload_n X.1 X.2.1 zd_R_waitsForTarget_52 rfl (lv_at hl 1 rfl) ?_
    refine lv_imul X.1 X.2.1 zd_R_waitsForTarget_53 ?_
    refine z_top (pk_mul _ _) ?_
    refine lv_iadd X.1 X.2.1 zd_R_waitsForTarget_54 ?_
    refine z_top (nI_add _ _) ?_
    refine lv_iload X.1 X.2.1 zd_R_waitsForTarget_55 (lv_at hl 0 rfl) ?_
    refine lv_iadd X.1 X.2.1 zd_R_waitsForTarget_57 ?_
    refine z_top (nI_add _ _) ?_
    refine l_mR_row X hP (by omega) zd_R_waitsForTarget_58 ?_
    refine l_mR_standsFor X hP (by omega) zd_R_waitsForTarget_59 ?_
    refine lv_istore (lv' := [(5, .int (nI (mR_standsFor σ (mR_row σ (((12 * t) + (4 * z)) + i))))), (4, .int (nI i)), (3, .int (nI z)), (0, .ref (G 0)), (1, .int (nI t)), (2, .int (nI a))]) X.1 X.2.1 zd_R_waitsForTarget_60 hl (by decide) rfl (fun ls hl => ?_)
    refine lv_aload_n X.1 X.2.1 zd_R_waitsForTarget_62 rfl (lv_at hl 3 rfl) ?_
    refine g_mR_known X hP zd_R_waitsForTarget_63 ?_
    refine lv_iload X.1 X.2.1 zd_R_waitsForTarget_66 (lv_at hl 0 rfl) ?_
    refine lv_iload_n X.1 X.2.1 zd_R_waitsForTarget_68 rfl (lv_at hl 5 rfl) ?_
    refine lv_aload_n X.1 X.2.1 zd_R_waitsForTarget_69 rfl (lv_at hl 3 rfl) ?_
    refine g_mR_setting X hP zd_R_waitsForTarget_70 ?_
    refine z_callSi (As := [.int (nI (mR_standsFor σ (mR_row σ (((12 * t) + (4 * z)) + i)))), .int (nI a), .int (nI (mR_setting σ))]) (rest := [.ref (G 13)]) X hml (r_placeOf l K G A hD σ (mR_standsFor σ (mR_row σ (((12 * t) + (4 * z)) + i))) a (mR_setting σ)) (zk_R_103 X.2.2.2.1 (z_rm (by omega) (by decide))) hP hS rfl hl.1 rfl (Nat.le_of_ble_eq_true rfl) zd_R_waitsForTarget_73 ⟨Nat.zero_le _, Nat.zero_le _⟩ (fun H locs hP hS => ?_)
    refine l_mR_known X hP (by omega) zd_R_waitsForTarget_76 ?_
    refine lv_if_eq (tgt := 83) X.1 X.2.1 zd_R_waitsForTarget_77 (by decide) (fun c1 => ?_) (fun c1 => ?_)
    · rw [z_eq0 (by omega)] at c1
      refine lv_aload_n X.1 X.2.1 zd_R_waitsForTarget_83 rfl (lv_at hl 3 rfl) ?_
      refine lv_iload X.1 X.2.1 zd_R_waitsForTarget_84 (lv_at hl 0 rfl) ?_
      refine lv_iload_n X.1 X.2.1 zd_R_waitsForTarget_86 rfl (lv_at hl 5 rfl) ?_
      refine z_callVv (As := [.int (nI (mR_standsFor σ (mR_row σ (((12 * t) + (4 * z)) + i)))), .int (nI a)]) (rest := []) (q0 := 0) (ci := 4) X hml (r_push l K G A hD σ (mR_standsFor σ (mR_row σ (((12 * t) + (4 * z)) + i))) a hh) (zk_R_123 X.2.2.2.1 (z_rm (by omega) (by decide))) rfl rfl rfl hP hS rfl hl.1 rfl (Nat.le_of_ble_eq_true rfl) zd_R_waitsForTarget_87 ⟨Nat.zero_le _, Nat.zero_le _⟩ (fun H locs hP hS => ?_)
      refine lv_iconst (v := nI 1) X.1 X.2.1 zd_R_waitsForTarget_90 (by decide) ?_
      have e9 : mWTi σ t a z (j + 1) i = (1, mPush σ (mU σ t z i) a) := by rw [mWTi]; exact if_pos c1
      rw [e9] at hF
      rw [hF Nat.one_ne_zero]
      exact z_zret X.1 X.2.1 hr hlocks (Or.inr rfl) rfl rfl hP hS zd_R_waitsForTarget_91
    · rw [z_eq0 (by omega)] at c1
      refine lv_goto (tgt := 92) X.1 X.2.1 zd_R_waitsForTarget_80 (by decide) ?_
      refine lv_iinc (v := nI (i + 1)) (lv' := [(4, .int (nI (i + 1))), (5, .int (nI (mR_standsFor σ (mR_row σ (((12 * t) + (4 * z)) + i))))), (3, .int (nI z)), (0, .ref (G 0)), (1, .int (nI t)), (2, .int (nI a))]) X.1 X.2.1 zd_R_waitsForTarget_92 hl (k := 1) rfl (nI_1 _) (by decide) rfl (fun ls hl => ?_)
      refine lv_goto (tgt := 10) X.1 X.2.1 zd_R_waitsForTarget_95 (by decide) ?_
      have e9 : mWTi σ t a z (j + 1) i = mWTi σ t a z j (i + 1) := by rw [mWTi]; exact if_neg c1
      rw [e9] at hF kont
      exact ih (i + 1) (by omega) hF kont H locs ls hP hS (lv_sub hl [0, 2, 3, 4, 5] rfl)

set_option maxHeartbeats 4000000 in
set_option maxRecDepth 100000 in
/-- waitsForTarget's outer loop -/
theorem q_R_waitsForTarget {p : Program} {e : Env} {s : State} {m : MethodId} {args : Array Value} {below : List Frame} {meth : Method} {c : Code} (l : Launch) (K : zK) (G : Nat → Nat) (A : Nat → Prop) (hD : ∀ σ, va_D A (mW K G σ)) (X : zFx K zR_R zb_R_waitsForTarget p s m args c) (hr : meth.sig.returnType = some .boolean) (hml : c.maxLocals = 6) (hlocks : meth.locks = false) (σ : mS) (t a : Nat) (ht : t < 20) (ha : a < 8) (hB : mB σ) (hk : mR_setting σ < 16) (hh : mR_heap σ < 170) (hkn2 : ∀ q, mR_known σ q ≤ 2) : ∀ (j z : Nat), z + j = 3 → ∀ (H : Heap) (locs : List Loc) (ls : Array Slot), va_P K.1 zcl (mW K G σ) H → va_S A s.heap H locs → lv_has ls 6 [(3, .int (nI z)), (0, .ref (G 0)), (1, .int (nI t)), (2, .int (nI a))] → W p l e (zrm 1) s m args below meth c H locs 0 0 (MQ below (zPost K A (mW K G (mWT σ t a j z).2) (some (.int (nI (mWT σ t a j z).1)))) args s 0 0 A) (F0 m 2 ls []) := by
  intro j
  induction j with
  | zero =>
    intro z hi H locs ls hP hS hl
    refine lv_iload_n X.1 X.2.1 zd_R_waitsForTarget_2 rfl (lv_at hl 0 rfl) ?_
    refine lv_iconst (v := nI 3) X.1 X.2.1 zd_R_waitsForTarget_3 (by decide) ?_
    refine lv_icmp_ge (tgt := 104) X.1 X.2.1 zd_R_waitsForTarget_4 (by decide) (fun _ => ?_) (fun h9 => absurd (by rw [nI_leI (by omega) (by omega)]; omega) h9)
    refine lv_iconst (v := nI 0) X.1 X.2.1 zd_R_waitsForTarget_104 (by decide) ?_
    exact z_zret X.1 X.2.1 hr hlocks (Or.inl rfl) rfl rfl hP hS zd_R_waitsForTarget_105
  | succ j ih =>
    intro z hi H locs ls hP hS hl
    have hr4 := hB.2.2.2.2.1 (3 * t + z)
    by_cases hbit : (mR_along σ a >>> (nI z &&& 31)) &&& nI 1 = nI 1
    · refine lv_iload_n X.1 X.2.1 zd_R_waitsForTarget_2 rfl (lv_at hl 0 rfl) ?_
      refine lv_iconst (v := nI 3) X.1 X.2.1 zd_R_waitsForTarget_3 (by decide) ?_
      refine lv_icmp_ge (tgt := 104) X.1 X.2.1 zd_R_waitsForTarget_4 (by decide) (fun h9 => absurd h9 (by rw [nI_leI (by omega) (by omega)]; omega)) (fun _ => ?_)
      refine lv_iconst (v := nI 0) X.1 X.2.1 zd_R_waitsForTarget_7 (by decide) ?_
      refine lv_istore (lv' := [(4, .int (nI 0)), (3, .int (nI z)), (0, .ref (G 0)), (1, .int (nI t)), (2, .int (nI a))]) X.1 X.2.1 zd_R_waitsForTarget_8 hl (by decide) rfl (fun ls hl => ?_)
      refine q_R_waitsForTarget_i l K G A hD X hr hml hlocks σ t a ht ha hB hk hh hkn2 z (by omega) hbit _ (mR_rowSize σ (3 * t + z)) 0 (Nat.zero_add _) (fun h0 => ?_) (fun h0 H locs ls hP hS hl => ?_) H locs ls hP hS (lv_sub hl [0, 1, 2, 3, 4] rfl)
      · rw [mWT, if_pos hbit]; exact if_neg h0
      refine lv_iinc (v := nI (z + 1)) (lv' := [(3, .int (nI (z + 1))), (0, .ref (G 0)), (1, .int (nI t)), (2, .int (nI a))]) X.1 X.2.1 zd_R_waitsForTarget_98 hl (k := 0) rfl (nI_1 _) (by decide) rfl (fun ls hl => ?_)
      refine lv_goto (tgt := 2) X.1 X.2.1 zd_R_waitsForTarget_101 (by decide) ?_
      rw [show mWT σ t a (j + 1) z = mWT σ t a j (z + 1) from by rw [mWT, if_pos hbit]; exact if_pos h0]
      exact ih (z + 1) (by omega) H locs ls hP hS (lv_sub hl [0, 1, 2, 3] rfl)
    · refine lv_iload_n X.1 X.2.1 zd_R_waitsForTarget_2 rfl (lv_at hl 0 rfl) ?_
      refine lv_iconst (v := nI 3) X.1 X.2.1 zd_R_waitsForTarget_3 (by decide) ?_
      refine lv_icmp_ge (tgt := 104) X.1 X.2.1 zd_R_waitsForTarget_4 (by decide) (fun h9 => absurd h9 (by rw [nI_leI (by omega) (by omega)]; omega)) (fun _ => ?_)
      refine lv_iconst (v := nI 0) X.1 X.2.1 zd_R_waitsForTarget_7 (by decide) ?_
      refine lv_istore (lv' := [(4, .int (nI 0)), (3, .int (nI z)), (0, .ref (G 0)), (1, .int (nI t)), (2, .int (nI a))]) X.1 X.2.1 zd_R_waitsForTarget_8 hl (by decide) rfl (fun ls hl => ?_)
      refine lv_iload X.1 X.2.1 zd_R_waitsForTarget_10 (lv_at hl 0 rfl) ?_
      refine lv_aload_n X.1 X.2.1 zd_R_waitsForTarget_12 rfl (lv_at hl 2 rfl) ?_
      refine g_mR_rowSize X hP zd_R_waitsForTarget_13 ?_
      refine lv_iconst (v := nI 3) X.1 X.2.1 zd_R_waitsForTarget_16 (by decide) ?_
      refine lv_iload_n X.1 X.2.1 zd_R_waitsForTarget_17 rfl (lv_at hl 3 rfl) ?_
      refine lv_imul X.1 X.2.1 zd_R_waitsForTarget_18 ?_
      refine z_top (pk_mul _ _) ?_
      refine lv_iload_n X.1 X.2.1 zd_R_waitsForTarget_19 rfl (lv_at hl 1 rfl) ?_
      refine lv_iadd X.1 X.2.1 zd_R_waitsForTarget_20 ?_
      refine z_top (nI_add _ _) ?_
      refine l_mR_rowSize X hP (by omega) zd_R_waitsForTarget_21 ?_
      refine lv_icmp_ge (tgt := 98) X.1 X.2.1 zd_R_waitsForTarget_22 (by decide) (fun c1 => ?_) (fun c1 => ?_)
      · rw [nI_leI (by omega) (by omega)] at c1
        refine lv_iinc (v := nI (z + 1)) (lv' := [(3, .int (nI (z + 1))), (4, .int (nI 0)), (0, .ref (G 0)), (1, .int (nI t)), (2, .int (nI a))]) X.1 X.2.1 zd_R_waitsForTarget_98 hl (k := 1) rfl (nI_1 _) (by decide) rfl (fun ls hl => ?_)
        refine lv_goto (tgt := 2) X.1 X.2.1 zd_R_waitsForTarget_101 (by decide) ?_
        rw [show mWT σ t a (j + 1) z = mWT σ t a j (z + 1) from by rw [mWT]; exact if_neg hbit]
        exact ih (z + 1) (by omega) H locs ls hP hS (lv_sub hl [0, 2, 3, 4] rfl)
      · rw [nI_leI (by omega) (by omega)] at c1
        refine lv_aload_n X.1 X.2.1 zd_R_waitsForTarget_25 rfl (lv_at hl 2 rfl) ?_
        refine g_mR_along X hP zd_R_waitsForTarget_26 ?_
        refine lv_iload_n X.1 X.2.1 zd_R_waitsForTarget_29 rfl (lv_at hl 4 rfl) ?_
        refine l_mR_along X hP (by omega) zd_R_waitsForTarget_30 ?_
        refine lv_iload_n X.1 X.2.1 zd_R_waitsForTarget_31 rfl (lv_at hl 1 rfl) ?_
        refine lv_ishr X.1 X.2.1 zd_R_waitsForTarget_32 ?_
        refine lv_iconst (v := nI 1) X.1 X.2.1 zd_R_waitsForTarget_33 (by decide) ?_
        refine lv_iand X.1 X.2.1 zd_R_waitsForTarget_34 ?_
        refine lv_iconst (v := nI 1) X.1 X.2.1 zd_R_waitsForTarget_35 (by decide) ?_
        refine lv_icmp_ne (tgt := 98) X.1 X.2.1 zd_R_waitsForTarget_36 (by decide) (fun _ => ?_) (fun h9 => absurd h9 hbit)
        refine lv_iinc (v := nI (z + 1)) (lv' := [(3, .int (nI (z + 1))), (4, .int (nI 0)), (0, .ref (G 0)), (1, .int (nI t)), (2, .int (nI a))]) X.1 X.2.1 zd_R_waitsForTarget_98 hl (k := 1) rfl (nI_1 _) (by decide) rfl (fun ls hl => ?_)
        refine lv_goto (tgt := 2) X.1 X.2.1 zd_R_waitsForTarget_101 (by decide) ?_
        rw [show mWT σ t a (j + 1) z = mWT σ t a j (z + 1) from by rw [mWT]; exact if_neg hbit]
        exact ih (z + 1) (by omega) H locs ls hP hS (lv_sub hl [0, 2, 3, 4] rfl)

set_option maxHeartbeats 4000000 in
set_option maxRecDepth 100000 in
/-- waitsForTarget(t, a) -/
theorem r_waitsForTarget (l : Launch) (K : zK) (G : Nat → Nat) (A : Nat → Prop) (hD : ∀ σ, va_D A (mW K G σ)) (σ : mS) (t a : Nat) (ht : t < 20) (ha : a < 8) (hB : mB σ) (hk : mR_setting σ < 16) (hh : mR_heap σ < 170) (hkn2 : ∀ q, mR_known σ q ≤ 2) : zMet l K A zy_R_waitsForTarget zws_R_waitsForTarget 1 [.ref (G 0), .int (nI t), .int (nI a)] (mW K G σ) (mW K G ((mWT σ t a 3 0).2)) (some (.int (nI ((mWT σ t a 3 0).1)))) := by
  refine z_entry (by decide) (Nat.le_of_ble_eq_true rfl) ?_
  intro p e s m below meth c ls X hr hml hlocks hP hl
  have hS : va_S A s.heap s.heap [] := va_S.rf
  have hl : lv_has ls 6 [(0, .ref (G 0)), (1, .int (nI t)), (2, .int (nI a))] := hl
  refine lv_iconst (v := nI 0) X.1 X.2.1 zd_R_waitsForTarget_0 (by decide) ?_
  refine lv_istore_n (lv' := [(3, .int (nI 0)), (0, .ref (G 0)), (1, .int (nI t)), (2, .int (nI a))]) X.1 X.2.1 zd_R_waitsForTarget_1 rfl hl (by decide) rfl (fun ls hl => ?_)
  exact q_R_waitsForTarget l K G A hD X hr hml hlocks σ t a ht ha hB hk hh hkn2 3 0 rfl s.heap [] ls hP hS (lv_sub hl [0, 1, 2, 3] rfl)

set_option maxHeartbeats 4000000 in
set_option maxRecDepth 100000 in
/-- with(kd, x, y) -/
theorem r_with (l : Launch) (K : zK) (G : Nat → Nat) (A : Nat → Prop) (hD : ∀ σ, va_D A (mW K G σ)) (σ : mS) (kd : Nat) (x y : Int64) (hkd : kd ≤ 3) : zMet l K A zy_R_with zws_R_with 0 [.int (nI kd), .long x, .long y] (mW K G σ) (mW K G σ) (some (.long (mWith kd x y))) := by
  refine z_entry (by decide) (Nat.le_of_ble_eq_true rfl) ?_
  intro p e s m below meth c ls X hr hml hlocks hP hl
  have hS : va_S A s.heap s.heap [] := va_S.rf
  have hl : lv_has ls 5 [(0, .int (nI kd)), (1, .long x), (3, .long y)] := hl
  refine lv_iload_n X.1 X.2.1 zd_R_with_0 rfl (lv_at hl 0 rfl) ?_
  refine lv_iconst (v := nI 1) X.1 X.2.1 zd_R_with_1 (by decide) ?_
  refine lv_icmp_ne (tgt := 19) X.1 X.2.1 zd_R_with_2 (by decide) (fun c1 => ?_) (fun c1 => ?_)
  · rw [nI_eq (by omega) (by omega)] at c1
    refine lv_iload_n X.1 X.2.1 zd_R_with_19 rfl (lv_at hl 0 rfl) ?_
    refine lv_iconst (v := nI 2) X.1 X.2.1 zd_R_with_20 (by decide) ?_
    refine lv_icmp_ne (tgt := 34) X.1 X.2.1 zd_R_with_21 (by decide) (fun c2 => ?_) (fun c2 => ?_)
    · rw [nI_eq (by omega) (by omega)] at c2
      refine lv_lload_n X.1 X.2.1 zd_R_with_34 rfl (lv_at hl 1 rfl) ?_
      refine lv_lload_n X.1 X.2.1 zd_R_with_35 rfl (lv_at hl 2 rfl) ?_
      refine lv_ladd X.1 X.2.1 zd_R_with_36 ?_
      exact z_lret X.1 X.2.1 hr hlocks (by simp [mWith, *]) rfl hP hS zd_R_with_37
    · rw [nI_eq (by omega) (by omega)] at c2
      refine lv_ldc2 (v := 31) X.1 X.2.1 X.2.2.1 (X.2.2.2.1 _ zw_683) zd_R_with_24 ?_
      refine lv_lload_n X.1 X.2.1 zd_R_with_27 rfl (lv_at hl 1 rfl) ?_
      refine lv_lmul X.1 X.2.1 zd_R_with_28 ?_
      refine lv_lload_n X.1 X.2.1 zd_R_with_29 rfl (lv_at hl 2 rfl) ?_
      refine lv_ladd X.1 X.2.1 zd_R_with_30 ?_
      refine lv_goto (tgt := 37) X.1 X.2.1 zd_R_with_31 (by decide) ?_
      exact z_lret X.1 X.2.1 hr hlocks (by simp [mWith, *]) rfl hP hS zd_R_with_37
  · rw [nI_eq (by omega) (by omega)] at c1
    refine lv_lload_n X.1 X.2.1 zd_R_with_5 rfl (lv_at hl 2 rfl) ?_
    refine lv_lload_n X.1 X.2.1 zd_R_with_6 rfl (lv_at hl 1 rfl) ?_
    refine W.lcmp X.1 X.2.1 zd_R_with_7 ?_
    refine lv_if_le (tgt := 15) X.1 X.2.1 zd_R_with_8 (by decide) (fun c3 => ?_) (fun c3 => ?_)
    · refine lv_lload_n X.1 X.2.1 zd_R_with_15 rfl (lv_at hl 1 rfl) ?_
      refine lv_goto (tgt := 37) X.1 X.2.1 zd_R_with_16 (by decide) ?_
      exact z_lret X.1 X.2.1 hr hlocks (by simp [mWith, *]) rfl hP hS zd_R_with_37
    · refine lv_lload_n X.1 X.2.1 zd_R_with_11 rfl (lv_at hl 2 rfl) ?_
      refine lv_goto (tgt := 37) X.1 X.2.1 zd_R_with_12 (by decide) ?_
      exact z_lret X.1 X.2.1 hr hlocks (by simp [mWith, *]) rfl hP hS zd_R_with_37

set_option maxHeartbeats 4000000 in
set_option maxRecDepth 100000 in
/-- resultOf's inner loop -/
theorem q_R_resultOf_i {p : Program} {e : Env} {s : State} {m : MethodId} {args : Array Value} {below : List Frame} {meth : Method} {c : Code} {Q : State → Prop} (l : Launch) (K : zK) (G : Nat → Nat) (A : Nat → Prop) (hD : ∀ σ, va_D A (mW K G σ)) (X : zFx K zR_R zb_R_resultOf p s m args c) (hr : meth.sig.returnType = (some .long)) (hml : c.maxLocals = 8) (hlocks : meth.locks = false) (σ : mS) (t a : Nat) (ht : t < 20) (ha : a < 8) (hB : mB σ) (hk : mR_setting σ < 16) (hkn2 : ∀ q, mR_known σ q ≤ 2) (z : Nat) (x : Int64) (hz : z < 3) (hbit : (mR_along σ a >>> (nI z &&& 31)) &&& nI 1 = nI 1) (kont : ∀ (H : Heap) (locs : List Loc) (ls : Array Slot), va_P K.1 zcl (mW K G σ) H → va_S A s.heap H locs → lv_has ls 8 [(3, .long (mRi σ t a z x (mR_rowSize σ (3 * t + z)))), (5, .int (nI z)), (0, .ref (G 0)), (1, .int (nI t)), (2, .int (nI a))] → W p l e (zrm 1) s m args below meth c H locs 0 0 Q (F0 m 137 ls [])) : ∀ (j i : Nat), i + j = mR_rowSize σ (3 * t + z) → ∀ (H : Heap) (locs : List Loc) (ls : Array Slot), va_P K.1 zcl (mW K G σ) H → va_S A s.heap H locs → lv_has ls 8 [(6, .int (nI i)), (3, .long (mRi σ t a z x i)), (5, .int (nI z)), (0, .ref (G 0)), (1, .int (nI t)), (2, .int (nI a))] → W p l e (zrm 1) s m args below meth c H locs 0 0 Q (F0 m 39 ls []) := by
  intro j
  induction j with
  | zero =>
    intro i hi H locs ls hP hS hl
    have hr4 := hB.2.2.2.2.1 (3 * t + z)
    have hrw := hB.2.2.2.1 (12 * t + 4 * z + i)
    have hst := hB.2.2.1 (mR_row σ (12 * t + 4 * z + i))
    have hkn := hkn2 ((mR_standsFor σ (mR_row σ (12 * t + 4 * z + i)) * 8 + a) * 16 + mR_setting σ)
    refine lv_iload X.1 X.2.1 zd_R_resultOf_39 (lv_at hl 0 rfl) ?_
    refine lv_aload_n X.1 X.2.1 zd_R_resultOf_41 rfl (lv_at hl 3 rfl) ?_
    refine g_mR_rowSize X hP zd_R_resultOf_42 ?_
    refine lv_iconst (v := nI 3) X.1 X.2.1 zd_R_resultOf_45 (by decide) ?_
    refine lv_iload_n X.1 X.2.1 zd_R_resultOf_46 rfl (lv_at hl 4 rfl) ?_
    refine lv_imul X.1 X.2.1 zd_R_resultOf_47 ?_
    refine z_top (pk_mul _ _) ?_
    refine lv_iload X.1 X.2.1 zd_R_resultOf_48 (lv_at hl 2 rfl) ?_
    refine lv_iadd X.1 X.2.1 zd_R_resultOf_50 ?_
    refine z_top (nI_add _ _) ?_
    refine l_mR_rowSize X hP (by omega) zd_R_resultOf_51 ?_
    refine lv_icmp_ge (tgt := 137) X.1 X.2.1 zd_R_resultOf_52 (by decide) (fun _ => ?_) (fun h9 => absurd (by rw [nI_leI (by omega) (by omega)]; omega) h9)
    exact kont H locs ls hP hS (by have h9 := hl; rw [show i = mR_rowSize σ (3 * t + z) by omega] at h9; exact lv_sub h9 [1, 2, 3, 4, 5] rfl)
  | succ j ih =>
    intro i hi H locs ls hP hS hl
    have hr4 := hB.2.2.2.2.1 (3 * t + z)
    have hrw := hB.2.2.2.1 (12 * t + 4 * z + i)
    have hst := hB.2.2.1 (mR_row σ (12 * t + 4 * z + i))
    have hkn := hkn2 ((mR_standsFor σ (mR_row σ (12 * t + 4 * z + i)) * 8 + a) * 16 + mR_setting σ)
    refine lv_iload X.1 X.2.1 zd_R_resultOf_39 (lv_at hl 0 rfl) ?_
    refine lv_aload_n X.1 X.2.1 zd_R_resultOf_41 rfl (lv_at hl 3 rfl) ?_
    refine g_mR_rowSize X hP zd_R_resultOf_42 ?_
    refine lv_iconst (v := nI 3) X.1 X.2.1 zd_R_resultOf_45 (by decide) ?_
    refine lv_iload_n X.1 X.2.1 zd_R_resultOf_46 rfl (lv_at hl 4 rfl) ?_
    refine lv_imul X.1 X.2.1 zd_R_resultOf_47 ?_
    refine z_top (pk_mul _ _) ?_
    refine lv_iload X.1 X.2.1 zd_R_resultOf_48 (lv_at hl 2 rfl) ?_
    refine lv_iadd X.1 X.2.1 zd_R_resultOf_50 ?_
    refine z_top (nI_add _ _) ?_
    refine l_mR_rowSize X hP (by omega) zd_R_resultOf_51 ?_
    refine lv_icmp_ge (tgt := 137) X.1 X.2.1 zd_R_resultOf_52 (by decide) (fun h9 => absurd h9 (by rw [nI_leI (by omega) (by omega)]; omega)) (fun _ => ?_)
    refine lv_aload_n X.1 X.2.1 zd_R_resultOf_55 rfl (lv_at hl 3 rfl) ?_
    refine g_mR_along X hP zd_R_resultOf_56 ?_
    refine lv_iload_n X.1 X.2.1 zd_R_resultOf_59 rfl (lv_at hl 5 rfl) ?_
    refine l_mR_along X hP (by omega) zd_R_resultOf_60 ?_
    refine lv_iload X.1 X.2.1 zd_R_resultOf_61 (lv_at hl 2 rfl) ?_
    refine lv_ishr X.1 X.2.1 zd_R_resultOf_63 ?_
    refine lv_iconst (v := nI 1) X.1 X.2.1 zd_R_resultOf_64 (by decide) ?_
    refine lv_iand X.1 X.2.1 zd_R_resultOf_65 ?_
    refine lv_iconst (v := nI 1) X.1 X.2.1 zd_R_resultOf_66 (by decide) ?_
    refine lv_icmp_ne (tgt := 137) X.1 X.2.1 zd_R_resultOf_67 (by decide) (fun h9 => absurd hbit h9) (fun _ => ?_)
    refine lv_aload_n X.1 X.2.1 zd_R_resultOf_70 rfl (lv_at hl 3 rfl) ?_
    refine g_mR_standsFor X hP zd_R_resultOf_71 ?_
    refine lv_aload_n X.1 X.2.1 zd_R_resultOf_74 rfl (lv_at hl 3 rfl) ?_
    refine g_mR_row X hP zd_R_resultOf_75 ?_
    refine lv_bipush (v := nI 12) X.1 X.2.1 zd_R_resultOf_78 (by decide) ?_
    refine lv_iload_n X.1 X.2.1 zd_R_resultOf_80 rfl (lv_at hl 4 rfl) ?_
    refine lv_imul X.1 X.2.1 zd_R_resultOf_81 ?_
    refine z_top (pk_mul _ _) ?_
    refine lv_iconst (v := nI 4) X.1 X.2.1 zd_R_resultOf_82 (by decide) ?_
    refine lv_iload X.1 X.2.1 zd_R_resultOf_83 (lv_at hl 2 rfl) ?_
    refine lv_imul X.1 X.2.1 zd_R_resultOf_85 ?_
    refine z_top (pk_mul _ _) ?_
    refine lv_iadd X.1 X.2.1 zd_R_resultOf_86 ?_
    refine z_top (nI_add _ _) ?_
    refine lv_iload X.1 X.2.1 zd_R_resultOf_87 (lv_at hl 0 rfl) ?_
    refine lv_iadd X.1 X.2.1 zd_R_resultOf_89 ?_
    refine z_top (nI_add _ _) ?_
    refine l_mR_row X hP (by omega) zd_R_resultOf_90 ?_
    refine l_mR_standsFor X hP (by omega) zd_R_resultOf_91 ?_
    refine lv_iload_n X.1 X.2.1 zd_R_resultOf_92 rfl (lv_at hl 5 rfl) ?_
    refine lv_aload_n X.1 X.2.1 zd_R_resultOf_93 rfl (lv_at hl 3 rfl) ?_
    refine g_mR_setting X hP zd_R_resultOf_94 ?_
    refine z_callSi (As := [.int (nI (mR_standsFor σ (mR_row σ (((12 * t) + (4 * z)) + i)))), .int (nI a), .int (nI (mR_setting σ))]) (rest := []) X hml (r_placeOf l K G A hD σ (mR_standsFor σ (mR_row σ (((12 * t) + (4 * z)) + i))) a (mR_setting σ)) (zk_R_103 X.2.2.2.1 (z_rm (by omega) (by decide))) hP hS rfl hl.1 rfl (Nat.le_of_ble_eq_true rfl) zd_R_resultOf_97 ⟨Nat.zero_le _, Nat.zero_le _⟩ (fun H locs hP hS => ?_)
    refine lv_istore (lv' := [(7, .int (nI (((mR_standsFor σ (mR_row σ (((12 * t) + (4 * z)) + i))) * 8 + a) * 16 + (mR_setting σ)))), (6, .int (nI i)), (3, .long (mRi σ t a z x i)), (5, .int (nI z)), (0, .ref (G 0)), (1, .int (nI t)), (2, .int (nI a))]) X.1 X.2.1 zd_R_resultOf_100 hl (by decide) rfl (fun ls hl => ?_)
    refine lv_aload_n X.1 X.2.1 zd_R_resultOf_102 rfl (lv_at hl 4 rfl) ?_
    refine g_mR_known X hP zd_R_resultOf_103 ?_
    refine lv_iload X.1 X.2.1 zd_R_resultOf_106 (lv_at hl 0 rfl) ?_
    refine l_mR_known X hP (by omega) zd_R_resultOf_108 ?_
    refine lv_iconst (v := nI 2) X.1 X.2.1 zd_R_resultOf_109 (by decide) ?_
    refine lv_icmp_ne (tgt := 131) X.1 X.2.1 zd_R_resultOf_110 (by decide) (fun c1 => ?_) (fun c1 => ?_)
    · rw [nI_eq (by omega) (by omega)] at c1
      refine lv_iinc (v := nI (i + 1)) (lv' := [(6, .int (nI (i + 1))), (7, .int (nI (((mR_standsFor σ (mR_row σ (((12 * t) + (4 * z)) + i))) * 8 + a) * 16 + (mR_setting σ)))), (3, .long (mRi σ t a z x i)), (5, .int (nI z)), (0, .ref (G 0)), (1, .int (nI t)), (2, .int (nI a))]) X.1 X.2.1 zd_R_resultOf_131 hl (k := 1) rfl (nI_1 _) (by decide) rfl (fun ls hl => ?_)
      refine lv_goto (tgt := 39) X.1 X.2.1 zd_R_resultOf_134 (by decide) ?_
      exact ih (i + 1) (by omega) H locs ls hP hS (by rw [show mRi σ t a z x (i + 1) = mRi σ t a z x i from (by rw [mRi, mPart]; simp only [if_neg c1])]; exact lv_sub hl [0, 2, 3, 4, 5, 6] rfl)
    · rw [nI_eq (by omega) (by omega)] at c1
      refine lv_aload_n X.1 X.2.1 zd_R_resultOf_113 rfl (lv_at hl 4 rfl) ?_
      refine g_mR_kind X hP zd_R_resultOf_114 ?_
      refine lv_iload_n X.1 X.2.1 zd_R_resultOf_117 rfl (lv_at hl 6 rfl) ?_
      refine l_mR_kind X hP (by omega) zd_R_resultOf_118 ?_
      refine lv_lload_n X.1 X.2.1 zd_R_resultOf_119 rfl (lv_at hl 2 rfl) ?_
      refine lv_aload_n X.1 X.2.1 zd_R_resultOf_120 rfl (lv_at hl 4 rfl) ?_
      refine g_mR_results X hP zd_R_resultOf_121 ?_
      refine lv_iload X.1 X.2.1 zd_R_resultOf_124 (lv_at hl 0 rfl) ?_
      refine l_mR_results X hP (by omega) zd_R_resultOf_126 ?_
      refine z_callSl (As := [.int (nI (mR_kind σ a)), .long (mRi σ t a z x i), .long (mR_results σ (((mR_standsFor σ (mR_row σ (((12 * t) + (4 * z)) + i))) * 8 + a) * 16 + (mR_setting σ)))]) (rest := []) X hml (r_with l K G A hD σ (mR_kind σ a) (mRi σ t a z x i) (mR_results σ (((mR_standsFor σ (mR_row σ (((12 * t) + (4 * z)) + i))) * 8 + a) * 16 + (mR_setting σ))) (hB.2.2.2.2.2.2.2.1 _)) (zk_R_129 X.2.2.2.1 (z_rm (by omega) (by decide))) hP hS rfl hl.1 rfl (Nat.le_of_ble_eq_true rfl) zd_R_resultOf_127 ⟨Nat.zero_le _, Nat.zero_le _⟩ (fun H locs hP hS => ?_)
      refine lv_lstore_n (lv' := [(3, .long (mWith (mR_kind σ a) (mRi σ t a z x i) (mR_results σ (((mR_standsFor σ (mR_row σ (((12 * t) + (4 * z)) + i))) * 8 + a) * 16 + (mR_setting σ))))), (7, .int (nI (((mR_standsFor σ (mR_row σ (((12 * t) + (4 * z)) + i))) * 8 + a) * 16 + (mR_setting σ)))), (6, .int (nI i)), (5, .int (nI z)), (0, .ref (G 0)), (1, .int (nI t)), (2, .int (nI a))]) X.1 X.2.1 zd_R_resultOf_130 rfl hl (by decide) rfl (fun ls hl => ?_)
      refine lv_iinc (v := nI (i + 1)) (lv' := [(6, .int (nI (i + 1))), (3, .long (mWith (mR_kind σ a) (mRi σ t a z x i) (mR_results σ (((mR_standsFor σ (mR_row σ (((12 * t) + (4 * z)) + i))) * 8 + a) * 16 + (mR_setting σ))))), (7, .int (nI (((mR_standsFor σ (mR_row σ (((12 * t) + (4 * z)) + i))) * 8 + a) * 16 + (mR_setting σ)))), (5, .int (nI z)), (0, .ref (G 0)), (1, .int (nI t)), (2, .int (nI a))]) X.1 X.2.1 zd_R_resultOf_131 hl (k := 2) rfl (nI_1 _) (by decide) rfl (fun ls hl => ?_)
      refine lv_goto (tgt := 39) X.1 X.2.1 zd_R_resultOf_134 (by decide) ?_
      exact ih (i + 1) (by omega) H locs ls hP hS (by rw [show mRi σ t a z x (i + 1) = mWith (mR_kind σ a) (mRi σ t a z x i) (mR_results σ (((mR_standsFor σ (mR_row σ (((12 * t) + (4 * z)) + i))) * 8 + a) * 16 + (mR_setting σ))) from (by rw [mRi, mPart]; simp only [if_pos c1])]; exact lv_sub hl [0, 1, 3, 4, 5, 6] rfl)

set_option maxHeartbeats 4000000 in
set_option maxRecDepth 100000 in
/-- resultOf's outer loop -/
theorem q_R_resultOf_o {p : Program} {e : Env} {s : State} {m : MethodId} {args : Array Value} {below : List Frame} {meth : Method} {c : Code} {Q : State → Prop} (l : Launch) (K : zK) (G : Nat → Nat) (A : Nat → Prop) (hD : ∀ σ, va_D A (mW K G σ)) (X : zFx K zR_R zb_R_resultOf p s m args c) (hr : meth.sig.returnType = some .long) (hml : c.maxLocals = 8) (hlocks : meth.locks = false) (σ : mS) (t a : Nat) (ht : t < 20) (ha : a < 8) (hB : mB σ) (hk : mR_setting σ < 16) (hkn2 : ∀ q, mR_known σ q ≤ 2) (x : Int64) (kont : ∀ (H : Heap) (locs : List Loc) (ls : Array Slot), va_P K.1 zcl (mW K G σ) H → va_S A s.heap H locs → lv_has ls 8 [(3, .long (mRo σ t a x 3)), (0, .ref (G 0)), (1, .int (nI t)), (2, .int (nI a))] → W p l e (zrm 1) s m args below meth c H locs 0 0 Q (F0 m 143 ls [])) : ∀ (j z : Nat), z + j = 3 → ∀ (H : Heap) (locs : List Loc) (ls : Array Slot), va_P K.1 zcl (mW K G σ) H → va_S A s.heap H locs → lv_has ls 8 [(5, .int (nI z)), (3, .long (mRo σ t a x z)), (0, .ref (G 0)), (1, .int (nI t)), (2, .int (nI a))] → W p l e (zrm 1) s m args below meth c H locs 0 0 Q (F0 m 30 ls []) := by
  intro j
  induction j with
  | zero =>
    intro z hi H locs ls hP hS hl
    refine lv_iload X.1 X.2.1 zd_R_resultOf_30 (lv_at hl 0 rfl) ?_
    refine lv_iconst (v := nI 3) X.1 X.2.1 zd_R_resultOf_32 (by decide) ?_
    refine lv_icmp_ge (tgt := 143) X.1 X.2.1 zd_R_resultOf_33 (by decide) (fun _ => ?_) (fun h9 => absurd (by rw [nI_leI (by omega) (by omega)]; omega) h9)
    exact kont H locs ls hP hS (by have h9 := hl; rw [show z = 3 by omega] at h9; exact lv_sub h9 [1, 2, 3, 4] rfl)
  | succ j ih =>
    intro z hi H locs ls hP hS hl
    have hr4 := hB.2.2.2.2.1 (3 * t + z)
    by_cases hbit : (mR_along σ a >>> (nI z &&& 31)) &&& nI 1 = nI 1
    · refine lv_iload X.1 X.2.1 zd_R_resultOf_30 (lv_at hl 0 rfl) ?_
      refine lv_iconst (v := nI 3) X.1 X.2.1 zd_R_resultOf_32 (by decide) ?_
      refine lv_icmp_ge (tgt := 143) X.1 X.2.1 zd_R_resultOf_33 (by decide) (fun h9 => absurd h9 (by rw [nI_leI (by omega) (by omega)]; omega)) (fun _ => ?_)
      refine lv_iconst (v := nI 0) X.1 X.2.1 zd_R_resultOf_36 (by decide) ?_
      refine lv_istore (lv' := [(6, .int (nI 0)), (5, .int (nI z)), (3, .long (mRo σ t a x z)), (0, .ref (G 0)), (1, .int (nI t)), (2, .int (nI a))]) X.1 X.2.1 zd_R_resultOf_37 hl (by decide) rfl (fun ls hl => ?_)
      refine q_R_resultOf_i l K G A hD X hr hml hlocks σ t a ht ha hB hk hkn2 z _ (by omega) hbit (fun H locs ls hP hS hl => ?_) (mR_rowSize σ (3 * t + z)) 0 (Nat.zero_add _) H locs ls hP hS (lv_sub hl [0, 2, 1, 3, 4, 5] rfl)
      refine lv_iinc (v := nI (z + 1)) (lv' := [(5, .int (nI (z + 1))), (3, .long (mRi σ t a z (mRo σ t a x z) (mR_rowSize σ (3 * t + z)))), (0, .ref (G 0)), (1, .int (nI t)), (2, .int (nI a))]) X.1 X.2.1 zd_R_resultOf_137 hl (k := 1) rfl (nI_1 _) (by decide) rfl (fun ls hl => ?_)
      refine lv_goto (tgt := 30) X.1 X.2.1 zd_R_resultOf_140 (by decide) ?_
      exact ih (z + 1) (by omega) H locs ls hP hS (by rw [show mRo σ t a x (z + 1) = mRi σ t a z (mRo σ t a x z) (mR_rowSize σ (3 * t + z)) from by rw [mRo]; exact if_pos hbit]; exact lv_sub hl [0, 1, 2, 3, 4] rfl)
    · refine lv_iload X.1 X.2.1 zd_R_resultOf_30 (lv_at hl 0 rfl) ?_
      refine lv_iconst (v := nI 3) X.1 X.2.1 zd_R_resultOf_32 (by decide) ?_
      refine lv_icmp_ge (tgt := 143) X.1 X.2.1 zd_R_resultOf_33 (by decide) (fun h9 => absurd h9 (by rw [nI_leI (by omega) (by omega)]; omega)) (fun _ => ?_)
      refine lv_iconst (v := nI 0) X.1 X.2.1 zd_R_resultOf_36 (by decide) ?_
      refine lv_istore (lv' := [(6, .int (nI 0)), (5, .int (nI z)), (3, .long (mRo σ t a x z)), (0, .ref (G 0)), (1, .int (nI t)), (2, .int (nI a))]) X.1 X.2.1 zd_R_resultOf_37 hl (by decide) rfl (fun ls hl => ?_)
      refine lv_iload X.1 X.2.1 zd_R_resultOf_39 (lv_at hl 0 rfl) ?_
      refine lv_aload_n X.1 X.2.1 zd_R_resultOf_41 rfl (lv_at hl 3 rfl) ?_
      refine g_mR_rowSize X hP zd_R_resultOf_42 ?_
      refine lv_iconst (v := nI 3) X.1 X.2.1 zd_R_resultOf_45 (by decide) ?_
      refine lv_iload_n X.1 X.2.1 zd_R_resultOf_46 rfl (lv_at hl 4 rfl) ?_
      refine lv_imul X.1 X.2.1 zd_R_resultOf_47 ?_
      refine z_top (pk_mul _ _) ?_
      refine lv_iload X.1 X.2.1 zd_R_resultOf_48 (lv_at hl 1 rfl) ?_
      refine lv_iadd X.1 X.2.1 zd_R_resultOf_50 ?_
      refine z_top (nI_add _ _) ?_
      refine l_mR_rowSize X hP (by omega) zd_R_resultOf_51 ?_
      refine lv_icmp_ge (tgt := 137) X.1 X.2.1 zd_R_resultOf_52 (by decide) (fun c1 => ?_) (fun c1 => ?_)
      · rw [nI_leI (by omega) (by omega)] at c1
        refine lv_iinc (v := nI (z + 1)) (lv' := [(5, .int (nI (z + 1))), (6, .int (nI 0)), (3, .long (mRo σ t a x z)), (0, .ref (G 0)), (1, .int (nI t)), (2, .int (nI a))]) X.1 X.2.1 zd_R_resultOf_137 hl (k := 1) rfl (nI_1 _) (by decide) rfl (fun ls hl => ?_)
        refine lv_goto (tgt := 30) X.1 X.2.1 zd_R_resultOf_140 (by decide) ?_
        exact ih (z + 1) (by omega) H locs ls hP hS (by rw [show mRo σ t a x (z + 1) = mRo σ t a x z from by rw [mRo]; exact if_neg hbit]; exact lv_sub hl [0, 2, 3, 4, 5] rfl)
      · rw [nI_leI (by omega) (by omega)] at c1
        refine lv_aload_n X.1 X.2.1 zd_R_resultOf_55 rfl (lv_at hl 3 rfl) ?_
        refine g_mR_along X hP zd_R_resultOf_56 ?_
        refine lv_iload_n X.1 X.2.1 zd_R_resultOf_59 rfl (lv_at hl 5 rfl) ?_
        refine l_mR_along X hP (by omega) zd_R_resultOf_60 ?_
        refine lv_iload X.1 X.2.1 zd_R_resultOf_61 (lv_at hl 1 rfl) ?_
        refine lv_ishr X.1 X.2.1 zd_R_resultOf_63 ?_
        refine lv_iconst (v := nI 1) X.1 X.2.1 zd_R_resultOf_64 (by decide) ?_
        refine lv_iand X.1 X.2.1 zd_R_resultOf_65 ?_
        refine lv_iconst (v := nI 1) X.1 X.2.1 zd_R_resultOf_66 (by decide) ?_
        refine lv_icmp_ne (tgt := 137) X.1 X.2.1 zd_R_resultOf_67 (by decide) (fun _ => ?_) (fun h9 => absurd h9 hbit)
        refine lv_iinc (v := nI (z + 1)) (lv' := [(5, .int (nI (z + 1))), (6, .int (nI 0)), (3, .long (mRo σ t a x z)), (0, .ref (G 0)), (1, .int (nI t)), (2, .int (nI a))]) X.1 X.2.1 zd_R_resultOf_137 hl (k := 1) rfl (nI_1 _) (by decide) rfl (fun ls hl => ?_)
        refine lv_goto (tgt := 30) X.1 X.2.1 zd_R_resultOf_140 (by decide) ?_
        exact ih (z + 1) (by omega) H locs ls hP hS (by rw [show mRo σ t a x (z + 1) = mRo σ t a x z from by rw [mRo]; exact if_neg hbit]; exact lv_sub hl [0, 2, 3, 4, 5] rfl)

set_option maxHeartbeats 4000000 in
set_option maxRecDepth 100000 in
/-- resultOf's last loop -/
theorem q_R_resultOf_n {p : Program} {e : Env} {s : State} {m : MethodId} {args : Array Value} {below : List Frame} {meth : Method} {c : Code} (l : Launch) (K : zK) (G : Nat → Nat) (A : Nat → Prop) (hD : ∀ σ, va_D A (mW K G σ)) (X : zFx K zR_R zb_R_resultOf p s m args c) (hr : meth.sig.returnType = (some .long)) (hml : c.maxLocals = 8) (hlocks : meth.locks = false) (σ : mS) (t a : Nat) (ht : t < 20) (ha : a < 8) (hB : mB σ) (hk : mR_setting σ < 16) (hkn2 : ∀ q, mR_known σ q ≤ 2) (x : Int64) (hk3 : ¬ mR_kind σ a = 3) : ∀ (j i : Nat), i + j = mR_needMany σ a → ∀ (H : Heap) (locs : List Loc) (ls : Array Slot), va_P K.1 zcl (mW K G σ) H → va_S A s.heap H locs → lv_has ls 8 [(5, .int (nI i)), (3, .long (mRn σ t a x i)), (0, .ref (G 0)), (1, .int (nI t)), (2, .int (nI a))] → W p l e (zrm 1) s m args below meth c H locs 0 0 (MQ below (zPost K A (mW K G σ) (some (.long (mRn σ t a x (mR_needMany σ a))))) args s 0 0 A) (F0 m 146 ls []) := by
  intro j
  induction j with
  | zero =>
    intro i hi H locs ls hP hS hl
    have h3 := hB.2.2.2.2.2.2.1 a
    have h8 := hB.2.2.2.2.2.1 (3 * a + i)
    have hkn := hkn2 ((t * 8 + mR_needs σ (3 * a + i)) * 16 + mR_setting σ)
    have hkd := hB.2.2.2.2.2.2.2.1 a
    refine lv_iload X.1 X.2.1 zd_R_resultOf_146 (lv_at hl 0 rfl) ?_
    refine lv_aload_n X.1 X.2.1 zd_R_resultOf_148 rfl (lv_at hl 2 rfl) ?_
    refine g_mR_needMany X hP zd_R_resultOf_149 ?_
    refine lv_iload_n X.1 X.2.1 zd_R_resultOf_152 rfl (lv_at hl 4 rfl) ?_
    refine l_mR_needMany X hP (by omega) zd_R_resultOf_153 ?_
    refine lv_icmp_ge (tgt := 223) X.1 X.2.1 zd_R_resultOf_154 (by decide) (fun _ => ?_) (fun h9 => absurd (by rw [nI_leI (by omega) (by omega)]; omega) h9)
    refine lv_lload_n X.1 X.2.1 zd_R_resultOf_223 rfl (lv_at hl 1 rfl) ?_
    exact z_lret X.1 X.2.1 hr hlocks (by rw [show i = mR_needMany σ a by omega]) rfl hP hS zd_R_resultOf_224
  | succ j ih =>
    intro i hi H locs ls hP hS hl
    have h3 := hB.2.2.2.2.2.2.1 a
    have h8 := hB.2.2.2.2.2.1 (3 * a + i)
    have hkn := hkn2 ((t * 8 + mR_needs σ (3 * a + i)) * 16 + mR_setting σ)
    have hkd := hB.2.2.2.2.2.2.2.1 a
    refine lv_iload X.1 X.2.1 zd_R_resultOf_146 (lv_at hl 0 rfl) ?_
    refine lv_aload_n X.1 X.2.1 zd_R_resultOf_148 rfl (lv_at hl 2 rfl) ?_
    refine g_mR_needMany X hP zd_R_resultOf_149 ?_
    refine lv_iload_n X.1 X.2.1 zd_R_resultOf_152 rfl (lv_at hl 4 rfl) ?_
    refine l_mR_needMany X hP (by omega) zd_R_resultOf_153 ?_
    refine lv_icmp_ge (tgt := 223) X.1 X.2.1 zd_R_resultOf_154 (by decide) (fun h9 => absurd h9 (by rw [nI_leI (by omega) (by omega)]; omega)) (fun _ => ?_)
    refine lv_aload_n X.1 X.2.1 zd_R_resultOf_157 rfl (lv_at hl 2 rfl) ?_
    refine g_mR_kind X hP zd_R_resultOf_158 ?_
    refine lv_iload_n X.1 X.2.1 zd_R_resultOf_161 rfl (lv_at hl 4 rfl) ?_
    refine l_mR_kind X hP (by omega) zd_R_resultOf_162 ?_
    refine lv_iconst (v := nI 3) X.1 X.2.1 zd_R_resultOf_163 (by decide) ?_
    refine lv_icmp_eq (tgt := 223) X.1 X.2.1 zd_R_resultOf_164 (by decide) (fun h9 => absurd h9 (by rw [nI_eq (by omega) (by omega)]; exact hk3)) (fun _ => ?_)
    refine lv_iload_n X.1 X.2.1 zd_R_resultOf_167 rfl (lv_at hl 3 rfl) ?_
    refine lv_aload_n X.1 X.2.1 zd_R_resultOf_168 rfl (lv_at hl 2 rfl) ?_
    refine g_mR_needs X hP zd_R_resultOf_169 ?_
    refine lv_iconst (v := nI 3) X.1 X.2.1 zd_R_resultOf_172 (by decide) ?_
    refine lv_iload_n X.1 X.2.1 zd_R_resultOf_173 rfl (lv_at hl 4 rfl) ?_
    refine lv_imul X.1 X.2.1 zd_R_resultOf_174 ?_
    refine z_top (pk_mul _ _) ?_
    refine lv_iload X.1 X.2.1 zd_R_resultOf_175 (lv_at hl 0 rfl) ?_
    refine lv_iadd X.1 X.2.1 zd_R_resultOf_177 ?_
    refine z_top (nI_add _ _) ?_
    refine l_mR_needs X hP (by omega) zd_R_resultOf_178 ?_
    refine lv_aload_n X.1 X.2.1 zd_R_resultOf_179 rfl (lv_at hl 2 rfl) ?_
    refine g_mR_setting X hP zd_R_resultOf_180 ?_
    refine z_callSi (As := [.int (nI t), .int (nI (mR_needs σ ((3 * a) + i))), .int (nI (mR_setting σ))]) (rest := []) X hml (r_placeOf l K G A hD σ t (mR_needs σ ((3 * a) + i)) (mR_setting σ)) (zk_R_103 X.2.2.2.1 (z_rm (by omega) (by decide))) hP hS rfl hl.1 rfl (Nat.le_of_ble_eq_true rfl) zd_R_resultOf_183 ⟨Nat.zero_le _, Nat.zero_le _⟩ (fun H locs hP hS => ?_)
    refine lv_istore (lv' := [(6, .int (nI ((t * 8 + (mR_needs σ ((3 * a) + i))) * 16 + (mR_setting σ)))), (5, .int (nI i)), (3, .long (mRn σ t a x i)), (0, .ref (G 0)), (1, .int (nI t)), (2, .int (nI a))]) X.1 X.2.1 zd_R_resultOf_186 hl (by decide) rfl (fun ls hl => ?_)
    refine lv_aload_n X.1 X.2.1 zd_R_resultOf_188 rfl (lv_at hl 3 rfl) ?_
    refine g_mR_known X hP zd_R_resultOf_189 ?_
    refine lv_iload X.1 X.2.1 zd_R_resultOf_192 (lv_at hl 0 rfl) ?_
    refine l_mR_known X hP (by omega) zd_R_resultOf_194 ?_
    refine lv_iconst (v := nI 2) X.1 X.2.1 zd_R_resultOf_195 (by decide) ?_
    refine lv_icmp_ne (tgt := 217) X.1 X.2.1 zd_R_resultOf_196 (by decide) (fun c1 => ?_) (fun c1 => ?_)
    · rw [nI_eq (by omega) (by omega)] at c1
      refine lv_iinc (v := nI (i + 1)) (lv' := [(5, .int (nI (i + 1))), (6, .int (nI ((t * 8 + (mR_needs σ ((3 * a) + i))) * 16 + (mR_setting σ)))), (3, .long (mRn σ t a x i)), (0, .ref (G 0)), (1, .int (nI t)), (2, .int (nI a))]) X.1 X.2.1 zd_R_resultOf_217 hl (k := 1) rfl (nI_1 _) (by decide) rfl (fun ls hl => ?_)
      refine lv_goto (tgt := 146) X.1 X.2.1 zd_R_resultOf_220 (by decide) ?_
      exact ih (i + 1) (by omega) H locs ls hP hS (by rw [show mRn σ t a x (i + 1) = mRn σ t a x i from (by rw [mRn, mPart]; simp only [if_neg c1])]; exact lv_sub hl [0, 2, 3, 4, 5] rfl)
    · rw [nI_eq (by omega) (by omega)] at c1
      refine lv_aload_n X.1 X.2.1 zd_R_resultOf_199 rfl (lv_at hl 3 rfl) ?_
      refine g_mR_kind X hP zd_R_resultOf_200 ?_
      refine lv_iload_n X.1 X.2.1 zd_R_resultOf_203 rfl (lv_at hl 5 rfl) ?_
      refine l_mR_kind X hP (by omega) zd_R_resultOf_204 ?_
      refine lv_lload_n X.1 X.2.1 zd_R_resultOf_205 rfl (lv_at hl 2 rfl) ?_
      refine lv_aload_n X.1 X.2.1 zd_R_resultOf_206 rfl (lv_at hl 3 rfl) ?_
      refine g_mR_results X hP zd_R_resultOf_207 ?_
      refine lv_iload X.1 X.2.1 zd_R_resultOf_210 (lv_at hl 0 rfl) ?_
      refine l_mR_results X hP (by omega) zd_R_resultOf_212 ?_
      refine z_callSl (As := [.int (nI (mR_kind σ a)), .long (mRn σ t a x i), .long (mR_results σ ((t * 8 + (mR_needs σ ((3 * a) + i))) * 16 + (mR_setting σ)))]) (rest := []) X hml (r_with l K G A hD σ (mR_kind σ a) (mRn σ t a x i) (mR_results σ ((t * 8 + (mR_needs σ ((3 * a) + i))) * 16 + (mR_setting σ))) (hB.2.2.2.2.2.2.2.1 _)) (zk_R_129 X.2.2.2.1 (z_rm (by omega) (by decide))) hP hS rfl hl.1 rfl (Nat.le_of_ble_eq_true rfl) zd_R_resultOf_213 ⟨Nat.zero_le _, Nat.zero_le _⟩ (fun H locs hP hS => ?_)
      refine lv_lstore_n (lv' := [(3, .long (mWith (mR_kind σ a) (mRn σ t a x i) (mR_results σ ((t * 8 + (mR_needs σ ((3 * a) + i))) * 16 + (mR_setting σ))))), (6, .int (nI ((t * 8 + (mR_needs σ ((3 * a) + i))) * 16 + (mR_setting σ)))), (5, .int (nI i)), (0, .ref (G 0)), (1, .int (nI t)), (2, .int (nI a))]) X.1 X.2.1 zd_R_resultOf_216 rfl hl (by decide) rfl (fun ls hl => ?_)
      refine lv_iinc (v := nI (i + 1)) (lv' := [(5, .int (nI (i + 1))), (3, .long (mWith (mR_kind σ a) (mRn σ t a x i) (mR_results σ ((t * 8 + (mR_needs σ ((3 * a) + i))) * 16 + (mR_setting σ))))), (6, .int (nI ((t * 8 + (mR_needs σ ((3 * a) + i))) * 16 + (mR_setting σ)))), (0, .ref (G 0)), (1, .int (nI t)), (2, .int (nI a))]) X.1 X.2.1 zd_R_resultOf_217 hl (k := 2) rfl (nI_1 _) (by decide) rfl (fun ls hl => ?_)
      refine lv_goto (tgt := 146) X.1 X.2.1 zd_R_resultOf_220 (by decide) ?_
      exact ih (i + 1) (by omega) H locs ls hP hS (by rw [show mRn σ t a x (i + 1) = mWith (mR_kind σ a) (mRn σ t a x i) (mR_results σ ((t * 8 + (mR_needs σ ((3 * a) + i))) * 16 + (mR_setting σ))) from (by rw [mRn, mPart]; simp only [if_pos c1])]; exact lv_sub hl [0, 1, 3, 4, 5] rfl)

set_option maxHeartbeats 4000000 in
set_option maxRecDepth 100000 in
/-- resultOf, the counting kind -/
theorem r_resultOf_3 (l : Launch) (K : zK) (G : Nat → Nat) (A : Nat → Prop) (hD : ∀ σ, va_D A (mW K G σ)) (σ : mS) (t a : Nat) (ht : t < 20) (ha : a < 8) (hB : mB σ) (hk : mR_setting σ < 16) (hkn2 : ∀ q, mR_known σ q ≤ 2) (hk3 : mR_kind σ a = 3) : zMet l K A zy_R_resultOf zws_R_resultOf 1 [.ref (G 0), .int (nI t), .int (nI a)] (mW K G σ) (mW K G σ) (some (.long (mRes σ t a))) := by
  have hkd := hB.2.2.2.2.2.2.2.1 a
  have h3m := hB.2.2.2.2.2.2.1 a
  refine z_entry (by decide) (Nat.le_of_ble_eq_true rfl) ?_
  intro p e s m below meth c ls X hr hml hlocks hP hl
  have hS : va_S A s.heap s.heap [] := va_S.rf
  have hl : lv_has ls 8 [(0, .ref (G 0)), (1, .int (nI t)), (2, .int (nI a))] := hl
  refine lv_aload_n X.1 X.2.1 zd_R_resultOf_0 rfl (lv_at hl 0 rfl) ?_
  refine g_mR_kind X hP zd_R_resultOf_1 ?_
  refine lv_iload_n X.1 X.2.1 zd_R_resultOf_4 rfl (lv_at hl 2 rfl) ?_
  refine l_mR_kind X hP (by omega) zd_R_resultOf_5 ?_
  refine lv_iconst (v := nI 3) X.1 X.2.1 zd_R_resultOf_6 (by decide) ?_
  refine lv_icmp_ne (tgt := 14) X.1 X.2.1 zd_R_resultOf_7 (by decide) (fun h9 => absurd (by rw [nI_eq (by omega) (by omega)]; exact hk3) h9) (fun _ => ?_)
  refine lv_lconst (v := 1) X.1 X.2.1 zd_R_resultOf_10 (by decide) ?_
  refine lv_goto (tgt := 26) X.1 X.2.1 zd_R_resultOf_11 (by decide) ?_
  refine lv_lstore_n (lv' := [(3, .long 1), (0, .ref (G 0)), (1, .int (nI t)), (2, .int (nI a))]) X.1 X.2.1 zd_R_resultOf_26 rfl hl (by decide) rfl (fun ls hl => ?_)
  refine lv_iconst (v := nI 0) X.1 X.2.1 zd_R_resultOf_27 (by decide) ?_
  refine lv_istore (lv' := [(5, .int (nI 0)), (3, .long 1), (0, .ref (G 0)), (1, .int (nI t)), (2, .int (nI a))]) X.1 X.2.1 zd_R_resultOf_28 hl (by decide) rfl (fun ls hl => ?_)
  refine q_R_resultOf_o l K G A hD X hr hml hlocks σ t a ht ha hB hk hkn2 (1) (fun H locs ls hP hS hl => ?_) 3 0 rfl s.heap [] ls hP hS (lv_sub hl [0, 1, 2, 3, 4] rfl)
  refine lv_iconst (v := nI 0) X.1 X.2.1 zd_R_resultOf_143 (by decide) ?_
  refine lv_istore (lv' := [(5, .int (nI 0)), (3, .long (mRo σ t a (1) 3)), (0, .ref (G 0)), (1, .int (nI t)), (2, .int (nI a))]) X.1 X.2.1 zd_R_resultOf_144 hl (by decide) rfl (fun ls hl => ?_)
  refine lv_iload X.1 X.2.1 zd_R_resultOf_146 (lv_at hl 0 rfl) ?_
  refine lv_aload_n X.1 X.2.1 zd_R_resultOf_148 rfl (lv_at hl 2 rfl) ?_
  refine g_mR_needMany X hP zd_R_resultOf_149 ?_
  refine lv_iload_n X.1 X.2.1 zd_R_resultOf_152 rfl (lv_at hl 4 rfl) ?_
  refine l_mR_needMany X hP (by omega) zd_R_resultOf_153 ?_
  refine lv_icmp_ge (tgt := 223) X.1 X.2.1 zd_R_resultOf_154 (by decide) (fun c1 => ?_) (fun c1 => ?_)
  · rw [nI_leI (by omega) (by omega)] at c1
    refine lv_lload_n X.1 X.2.1 zd_R_resultOf_223 rfl (lv_at hl 1 rfl) ?_
    exact z_lret X.1 X.2.1 hr hlocks (by rw [mRes, if_pos hk3]) rfl hP hS zd_R_resultOf_224
  · rw [nI_leI (by omega) (by omega)] at c1
    refine lv_aload_n X.1 X.2.1 zd_R_resultOf_157 rfl (lv_at hl 2 rfl) ?_
    refine g_mR_kind X hP zd_R_resultOf_158 ?_
    refine lv_iload_n X.1 X.2.1 zd_R_resultOf_161 rfl (lv_at hl 4 rfl) ?_
    refine l_mR_kind X hP (by omega) zd_R_resultOf_162 ?_
    refine lv_iconst (v := nI 3) X.1 X.2.1 zd_R_resultOf_163 (by decide) ?_
    refine lv_icmp_eq (tgt := 223) X.1 X.2.1 zd_R_resultOf_164 (by decide) (fun _ => ?_) (fun h9 => absurd (by rw [nI_eq (by omega) (by omega)]; exact hk3) h9)
    refine lv_lload_n X.1 X.2.1 zd_R_resultOf_223 rfl (lv_at hl 1 rfl) ?_
    exact z_lret X.1 X.2.1 hr hlocks (by rw [mRes, if_pos hk3]) rfl hP hS zd_R_resultOf_224

set_option maxHeartbeats 4000000 in
set_option maxRecDepth 100000 in
/-- resultOf, another kind -/
theorem r_resultOf_n (l : Launch) (K : zK) (G : Nat → Nat) (A : Nat → Prop) (hD : ∀ σ, va_D A (mW K G σ)) (σ : mS) (t a : Nat) (ht : t < 20) (ha : a < 8) (hB : mB σ) (hk : mR_setting σ < 16) (hkn2 : ∀ q, mR_known σ q ≤ 2) (hk3 : ¬ mR_kind σ a = 3) : zMet l K A zy_R_resultOf zws_R_resultOf 1 [.ref (G 0), .int (nI t), .int (nI a)] (mW K G σ) (mW K G σ) (some (.long (mRes σ t a))) := by
  have hkd := hB.2.2.2.2.2.2.2.1 a
  have h3m := hB.2.2.2.2.2.2.1 a
  refine z_entry (by decide) (Nat.le_of_ble_eq_true rfl) ?_
  intro p e s m below meth c ls X hr hml hlocks hP hl
  have hS : va_S A s.heap s.heap [] := va_S.rf
  have hl : lv_has ls 8 [(0, .ref (G 0)), (1, .int (nI t)), (2, .int (nI a))] := hl
  refine lv_aload_n X.1 X.2.1 zd_R_resultOf_0 rfl (lv_at hl 0 rfl) ?_
  refine g_mR_kind X hP zd_R_resultOf_1 ?_
  refine lv_iload_n X.1 X.2.1 zd_R_resultOf_4 rfl (lv_at hl 2 rfl) ?_
  refine l_mR_kind X hP (by omega) zd_R_resultOf_5 ?_
  refine lv_iconst (v := nI 3) X.1 X.2.1 zd_R_resultOf_6 (by decide) ?_
  refine lv_icmp_ne (tgt := 14) X.1 X.2.1 zd_R_resultOf_7 (by decide) (fun _ => ?_) (fun h9 => absurd h9 (by rw [nI_eq (by omega) (by omega)]; exact hk3))
  refine lv_aload_n X.1 X.2.1 zd_R_resultOf_14 rfl (lv_at hl 0 rfl) ?_
  refine g_mR_value X hP zd_R_resultOf_15 ?_
  refine lv_iload_n X.1 X.2.1 zd_R_resultOf_18 rfl (lv_at hl 1 rfl) ?_
  refine l_mR_value X hP (by omega) zd_R_resultOf_19 ?_
  refine lv_aload_n X.1 X.2.1 zd_R_resultOf_20 rfl (lv_at hl 0 rfl) ?_
  refine g_mR_setting X hP zd_R_resultOf_21 ?_
  refine lv_i2l (v := (nI (mR_setting σ)).toInt64) X.1 X.2.1 zd_R_resultOf_24 rfl ?_
  refine lv_ladd X.1 X.2.1 zd_R_resultOf_25 ?_
  refine lv_lstore_n (lv' := [(3, .long ((mR_value σ t) + ((nI (mR_setting σ)).toInt64))), (0, .ref (G 0)), (1, .int (nI t)), (2, .int (nI a))]) X.1 X.2.1 zd_R_resultOf_26 rfl hl (by decide) rfl (fun ls hl => ?_)
  refine lv_iconst (v := nI 0) X.1 X.2.1 zd_R_resultOf_27 (by decide) ?_
  refine lv_istore (lv' := [(5, .int (nI 0)), (3, .long ((mR_value σ t) + ((nI (mR_setting σ)).toInt64))), (0, .ref (G 0)), (1, .int (nI t)), (2, .int (nI a))]) X.1 X.2.1 zd_R_resultOf_28 hl (by decide) rfl (fun ls hl => ?_)
  refine q_R_resultOf_o l K G A hD X hr hml hlocks σ t a ht ha hB hk hkn2 (mR_value σ t + (nI (mR_setting σ)).toInt64) (fun H locs ls hP hS hl => ?_) 3 0 rfl s.heap [] ls hP hS (lv_sub hl [0, 1, 2, 3, 4] rfl)
  refine lv_iconst (v := nI 0) X.1 X.2.1 zd_R_resultOf_143 (by decide) ?_
  refine lv_istore (lv' := [(5, .int (nI 0)), (3, .long (mRo σ t a (mR_value σ t + (nI (mR_setting σ)).toInt64) 3)), (0, .ref (G 0)), (1, .int (nI t)), (2, .int (nI a))]) X.1 X.2.1 zd_R_resultOf_144 hl (by decide) rfl (fun ls hl => ?_)
  rw [show mRes σ t a = mRn σ t a (mRo σ t a (mR_value σ t + (nI (mR_setting σ)).toInt64) 3) (mR_needMany σ a) from by rw [mRes, if_neg hk3]]
  exact q_R_resultOf_n l K G A hD X hr hml hlocks σ t a ht ha hB hk hkn2 _ hk3 (mR_needMany σ a) 0 (Nat.zero_add _) H locs ls hP hS (lv_sub hl [0, 1, 2, 3, 4] rfl)

theorem r_resultOf (l : Launch) (K : zK) (G : Nat → Nat) (A : Nat → Prop) (hD : ∀ σ, va_D A (mW K G σ)) (σ : mS) (t a : Nat) (ht : t < 20) (ha : a < 8) (hB : mB σ) (hk : mR_setting σ < 16) (hkn2 : ∀ q, mR_known σ q ≤ 2) : zMet l K A zy_R_resultOf zws_R_resultOf 1 [.ref (G 0), .int (nI t), .int (nI a)] (mW K G σ) (mW K G σ) (some (.long (mRes σ t a))) := by
  by_cases hk3 : mR_kind σ a = 3
  · exact r_resultOf_3 l K G A hD σ t a ht ha hB hk hkn2 hk3
  · exact r_resultOf_n l K G A hD σ t a ht ha hB hk hkn2 hk3

