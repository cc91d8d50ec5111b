/-! the relation between the class's state and the reference's -/
/-- what stands of targets and aspects is the same -/
def sRel (σ : cS) (m : mS) : Prop := cT_opened σ = mR_targets m ∧ cT_ends σ = mR_standsFor m ∧ cT_values σ = mR_value m ∧ cT_providers σ = mR_providers m ∧ cT_rowLengths σ = mR_rowSize m ∧ (∀ t z i, t < 20 → z < 3 → i < mR_rowSize m (3 * t + z) → cT_rows σ ((t * 3 + z) * 4 + i) = mU m t z i) ∧ cA_opened σ = mR_aspects m ∧ cA_kinds σ = mR_kind m ∧ cA_alongs σ = mR_along m ∧ cA_wants σ = mR_wants m ∧ cA_gives σ = mR_gives m ∧ cA_names σ = mR_nameOf m ∧ cA_needs σ = mR_needs m ∧ cA_needCounts σ = mR_needMany m
/-- what is known in the class, as the reference counts it -/
def cSt (σ : cS) (t a k : Nat) : Nat := if bt (cM_doneSettings σ (t * 8 + a)) k = true then 2 else if bt (cM_passedSettings σ (t * 8 + a)) k = true then 1 else 0
theorem cSt_le (σ : cS) (t a k : Nat) : cSt σ t a k ≤ 2 := by unfold cSt; split <;> (try split) <;> omega
theorem cKnown_st {k : Nat} (hk : k < 32) (σ : cS) (t a : Nat) : cKnown σ t a k = nI (cSt σ t a k) - nI 1 := by
  unfold cKnown cSt
  cases h1 : bt (cM_doneSettings σ (t * 8 + a)) k with
  | false =>
    rw [if_pos ((z_bit0 hk _).mpr h1)]
    cases h2 : bt (cM_passedSettings σ (t * 8 + a)) k with
    | false => rw [if_pos ((z_bit0 hk _).mpr h2)]; decide
    | true => rw [if_neg (by rw [z_bit0 hk, h2]; decide)]; decide
  | true => rw [if_neg (by rw [z_bit0 hk, h1]; decide), if_pos rfl]; decide
theorem st_cases {x : Nat} (h : x ≤ 2) : x = 0 ∨ x = 1 ∨ x = 2 := by omega
theorem known_m1 {x : Nat} (h : x ≤ 2) : nI x - nI 1 = -1 ↔ x = 0 := by
  rcases st_cases h with rfl | rfl | rfl <;> decide
theorem known_1 {x : Nat} (h : x ≤ 2) : nI x - nI 1 = nI 1 ↔ x = 2 := by
  rcases st_cases h with rfl | rfl | rfl <;> decide
theorem known_ge {x : Nat} (h : x ≤ 2) (h0 : ¬ x = 0) : 0 ≤ nI x - nI 1 := by
  rcases st_cases h with rfl | rfl | rfl
  · exact absurd rfl h0
  · decide
  · decide
/-- what is known, made and told is the same -/
def dRel (σ : cS) (m : mS) : Prop := (∀ t a k, t < 20 → a < 8 → k < 16 → mR_known m ((t * 8 + a) * 16 + k) = cSt σ t a k) ∧ cM_results σ = mR_results m ∧ cM_doneTimes σ = mR_times m ∧ cW_clash σ = mR_clashTold m ∧ (∀ t n, t < 20 → n < 10 → (cM_makers σ (t * 10 + n) = -1 ∧ mR_madeBy m (10 * t + n) = -1) ∨ ∃ a k, a < 8 ∧ k < 16 ∧ cM_makers σ (t * 10 + n) = nI a ∧ cM_makerSettings σ (t * 10 + n) = k ∧ mR_madeBy m (10 * t + n) = nI (16 * a + k))
/-- how many are 2 -/
def zCnt (f : Nat → Nat) : Nat → Nat
  | 0 => 0
  | i + 1 => zCnt f i + (if f i = 2 then 1 else 0)
theorem mCnt_z (m : mS) (n : Nat) : mCnt m n = zCnt (mR_known m) n := by
  induction n with
  | zero => rfl
  | succ n ih => rw [mCnt, zCnt, ih]
theorem zCnt_out {f : Nat → Nat} {q x : Nat} : ∀ {n : Nat}, n ≤ q → zCnt (upN f q x) n = zCnt f n := by
  intro n
  induction n with
  | zero => intro _; rfl
  | succ n ih =>
    intro h
    rw [zCnt, zCnt, ih (by omega), show upN f q x n = f n by unfold upN; rw [if_neg (by omega)]]
theorem zCnt_set {f : Nat → Nat} {q : Nat} (hq : ¬ f q = 2) : ∀ {n : Nat}, q < n → zCnt (upN f q 2) n = zCnt f n + 1 := by
  intro n
  induction n with
  | zero => intro h; omega
  | succ n ih =>
    intro h
    rw [zCnt, zCnt]
    by_cases e : q = n
    · subst e
      rw [zCnt_out (Nat.le_refl _), show upN f q 2 q = 2 by unfold upN; rw [if_pos rfl], if_pos rfl, if_neg hq]
    · rw [ih (by omega), show upN f q 2 n = f n by unfold upN; rw [if_neg (fun x => e x.symm)]]
      omega
theorem zCnt_keep {f : Nat → Nat} {q x : Nat} (h1 : ¬ f q = 2) (h2 : ¬ x = 2) (n : Nat) : zCnt (upN f q x) n = zCnt f n := by
  induction n with
  | zero => rfl
  | succ n ih =>
    rw [zCnt, zCnt, ih]
    by_cases e : n = q
    · subst e
      rw [show upN f n x n = x by unfold upN; rw [if_pos rfl], if_neg h1, if_neg h2]
    · rw [show upN f q x n = f n by unfold upN; rw [if_neg e]]
/-- what holds of what is known and made -/
def dInv (σ : cS) (m : mS) : Prop := (∀ t a k, t < 20 → a < 8 → k < 16 → ¬ mR_known m ((t * 8 + a) * 16 + k) = 0 → t < mR_targets m ∧ a < mR_aspects m) ∧ (∀ t n a k, t < 20 → n < 10 → a < 8 → k < 16 → mR_madeBy m (10 * t + n) = nI (16 * a + k) → mR_nameOf m a = nI n ∧ mR_known m ((t * 8 + a) * 16 + k) = 2) ∧ (∀ q, mR_known m q ≤ 2) ∧ mMb m ∧ cM_nowDone σ = nI (zCnt (mR_known m) 2560) ∧ (∀ p k, 16 ≤ k → bt (cM_doneSettings σ p) k = false)
/-- what holds of targets and aspects; rk falls along the needs -/
def sInv (rk : Nat → Nat) (m : mS) : Prop := mB m ∧ (∀ t z i, t < mR_targets m → z < 3 → i < mR_rowSize m (3 * t + z) → mU m t z i < t) ∧ (∀ a i, a < mR_aspects m → i < mR_needMany m a → mR_needs m (3 * a + i) < mR_aspects m ∧ rk (mR_needs m (3 * a + i)) < rk a)
def full (rk : Nat → Nat) (σ : cS) (m : mS) : Prop := sRel σ m ∧ dRel σ m ∧ dInv σ m ∧ sInv rk m
/-- what a doing reads -/
def wk (σ : cS) (m : mS) : Prop := sRel σ m ∧ dRel σ m ∧ (∀ q, mR_known m q ≤ 2) ∧ mB m
theorem full.wk {rk : Nat → Nat} {σ : cS} {m : mS} (h : full rk σ m) : wk σ m := ⟨h.1, h.2.1, h.2.2.1.2.2.1, h.2.2.2.1⟩
/-! what a doing reads is the same on both sides -/
theorem or_nI0 (x : Int32) : x ||| nI 0 = x := by
  apply b_ext
  intro i hi
  rw [b_or, bt_nI0]
  simp
theorem cMax_with (x y : Int64) : cMax x y = if lg_cmp y x ≤ 0 then x else y := by
  unfold cMax lg_cmp
  by_cases h : y < x
  · rw [if_pos h]
    have h1 : ¬ y > x := by
      intro q
      rw [gt_iff_lt, Int64.lt_iff_toInt_lt] at q
      rw [Int64.lt_iff_toInt_lt] at h
      omega
    rw [if_neg h1]
    by_cases h2 : y = x
    · subst h2; rw [if_pos rfl, if_pos (by decide)]
    · rw [if_neg h2, if_pos (by decide)]
  · rw [if_neg h]
    by_cases h2 : y = x
    · subst h2; exact (ite_self _).symm
    · have h1 : y > x := by
        rw [gt_iff_lt, Int64.lt_iff_toInt_lt]
        rw [Int64.lt_iff_toInt_lt] at h
        have h3 : ¬ y.toInt = x.toInt := fun q => h2 (Int64.toInt_inj.mp q)
        omega
      rw [if_pos h1, if_neg (by decide)]
theorem cJoin_with (kd : Nat) (x y : Int64) : cJoin kd x y = mWith kd x y := by
  unfold cJoin mWith
  rw [cMax_with]
theorem part_eq {σ : cS} {m : mS} (hd : dRel σ m) (hk2 : ∀ q, mR_known m q ≤ 2) (kd : Nat) (x : Int64) {t a k : Nat} (ht : t < 20) (ha : a < 8) (hk : k < 16) : cJoinPart σ kd x t a k = mPart m kd x ((t * 8 + a) * 16 + k) := by
  unfold cJoinPart mPart
  rw [cKnown_st (by omega), ← hd.1 t a k ht ha hk, hd.2.1, cJoin_with]
  by_cases h : mR_known m ((t * 8 + a) * 16 + k) = 2
  · rw [if_pos h, if_pos ((known_1 (hk2 _)).mpr h)]
  · rw [if_neg h, if_neg (fun q => h ((known_1 (hk2 _)).mp q))]
theorem offer_eq {σ : cS} {m : mS} (hf : wk σ m) {t a k : Nat} (ht : t < 20) (ha : a < 8) (hk : k < 16) (hs : mR_setting m = k) (i : Nat) : cOffer σ t a k i = mOf m t a i := by
  obtain ⟨hS, hd, hI, hV⟩ := hf
  obtain ⟨s1, s2, s3, s4, s5, s6, s7, s8, s9, s10, s11, s12, s13, s14⟩ := hS
  induction i with
  | zero => unfold cOffer mOf; rw [s4]
  | succ i ih =>
    unfold cOffer mOf
    rw [ih, s13, s11, show a * 3 + i = 3 * a + i by omega]
    have hb := hV.2.2.2.2.2.1 (3 * a + i)
    rw [cKnown_st (by omega), ← hd.1 t _ k ht hb hk]
    show _ = mOf m t a i ||| (if mR_known m ((t * 8 + mR_needs m (3 * a + i)) * 16 + mR_setting m) = 2 then _ else _)
    rw [hs]
    by_cases h : mR_known m ((t * 8 + mR_needs m (3 * a + i)) * 16 + k) = 2
    · rw [if_pos h, if_pos ((known_1 (hI _)).mpr h)]
    · rw [if_neg h, if_neg (fun q => h ((known_1 (hI _)).mp q)), or_nI0]
theorem lacks_eq {σ : cS} {m : mS} (hf : wk σ m) {t a k : Nat} (ht : t < 20) (ha : a < 8) (hk : k < 16) (hs : mR_setting m = k) : cLacks σ t a k = 0 ↔ ¬ mAll m t a = 0 := by
  unfold cLacks mAll
  rw [offer_eq hf ht ha hk hs, hf.1.2.2.2.2.2.2.2.2.2.1, hf.1.2.2.2.2.2.2.2.2.2.2.2.2.2]
  split <;> simp
theorem jn_eq {σ : cS} {m : mS} (hf : wk σ m) (x : Int64) {t a k : Nat} (ht : t < 20) (ha : a < 8) (hk : k < 16) (hs : mR_setting m = k) (i : Nat) : cJN σ (cA_kinds σ a) x t a k i = mRn m t a x i := by
  induction i with
  | zero => rfl
  | succ i ih =>
    unfold cJN mRn
    rw [ih, hf.1.2.2.2.2.2.2.2.2.2.2.2.2.1, show a * 3 + i = 3 * a + i by omega, part_eq hf.2.1 hf.2.2.1 _ _ ht (hf.2.2.2.2.2.2.2.2.1 _) hk, hf.1.2.2.2.2.2.2.2.1]
    show _ = mPart m (mR_kind m a) (mRn m t a x i) ((t * 8 + mR_needs m (3 * a + i)) * 16 + mR_setting m)
    rw [hs]
theorem bit_len {σ : cS} {m : mS} (hS : sRel σ m) {t a z : Nat} (hz : z < 3) : cLen σ t a z = if (mR_along m a >>> (nI z &&& 31)) &&& nI 1 = nI 1 then mR_rowSize m (3 * t + z) else 0 := by
  unfold cLen
  rw [hS.2.2.2.2.2.2.2.2.1, hS.2.2.2.2.1, show t * 3 + z = 3 * t + z by omega]
  by_cases h : bt (mR_along m a) z = true
  · rw [if_pos ((z_bitk (by omega) _).mpr h), if_neg (by rw [cLead_0 (by omega), h]; decide)]
  · rw [if_neg (fun q => h ((z_bitk (by omega) _).mp q)), if_pos (by rw [cLead_0 (by omega)]; simpa using h)]
theorem jbi_eq {σ : cS} {m : mS} (hf : wk σ m) (x : Int64) {t a k z : Nat} (ht : t < 20) (ha : a < 8) (hk : k < 16) (hz : z < 3) (hs : mR_setting m = k) (i : Nat) (hi : i ≤ mR_rowSize m (3 * t + z)) : cJBi σ (cA_kinds σ a) x t a k z i = mRi m t a z x i := by
  induction i with
  | zero => rfl
  | succ i ih =>
    unfold cJBi mRi
    rw [ih (by omega), hf.1.2.2.2.2.2.1 t z i ht hz (by omega), part_eq hf.2.1 hf.2.2.1 _ _ (hf.2.2.2.2.2.1 _) ha hk, hf.1.2.2.2.2.2.2.2.1]
    show _ = mPart m (mR_kind m a) (mRi m t a z x i) ((mU m t z i * 8 + a) * 16 + mR_setting m)
    rw [hs]
theorem jb_eq {σ : cS} {m : mS} (hf : wk σ m) (x : Int64) {t a k : Nat} (ht : t < 20) (ha : a < 8) (hk : k < 16) (hs : mR_setting m = k) (z : Nat) (hz : z ≤ 3) : cJB σ (cA_kinds σ a) x t a k z = mRo m t a x z := by
  induction z with
  | zero => rfl
  | succ z ih =>
    unfold cJB mRo
    rw [ih (by omega), bit_len hf.1 (by omega)]
    split
    · exact jbi_eq hf _ ht ha hk (by omega) hs _ (Nat.le_refl _)
    · rfl
theorem joined_eq {σ : cS} {m : mS} (hf : wk σ m) {t a k : Nat} (ht : t < 20) (ha : a < 8) (hk : k < 16) (hs : mR_setting m = k) : cJoined σ t a k = mRes m t a := by
  unfold cJoined mRes
  rw [jn_eq hf _ ht ha hk hs, jb_eq hf _ ht ha hk hs 3 (Nat.le_refl 3), jb_eq hf _ ht ha hk hs 3 (Nat.le_refl 3), hf.1.2.2.2.2.2.2.2.1, hf.1.2.2.1, hf.1.2.2.2.2.2.2.2.2.2.2.2.2.2, hs]
