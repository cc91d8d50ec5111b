/-! passing, making and ending keep the relation -/
theorem nI_ne_m1 {n : Nat} (h : n < 2 ^ 31) : ¬ nI n = -1 := by
  intro e
  have := congrArg Int32.toInt e
  rw [nI_toInt h] at this
  have h2 : (-1 : Int32).toInt = -1 := by decide
  omega
/-- nothing but what is known, its results and times, the heap has changed -/
def mFr (m' m : mS) : Prop := mSame m' m ∧ mR_clashTold m' = mR_clashTold m ∧ mR_madeBy m' = mR_madeBy m ∧ mR_setting m' = mR_setting m ∧ mR_touched m' = mR_touched m
theorem mFr.tr {a b c : mS} (h1 : mFr a b) (h2 : mFr b c) : mFr a c := ⟨h1.1.tr h2.1, h1.2.1.trans h2.2.1, h1.2.2.1.trans h2.2.2.1, h1.2.2.2.1.trans h2.2.2.2.1, h1.2.2.2.2.trans h2.2.2.2.2⟩
theorem mFr_heap (m : mS) (x : Nat) : mFr (p_mR_heap m x) m := ⟨⟨rfl, rfl, rfl, rfl, rfl, rfl, rfl, rfl, rfl, rfl, rfl, rfl, rfl, rfl⟩, rfl, rfl, rfl, rfl⟩
theorem mFr_times (m : mS) (x : Nat → Int32) : mFr (p_mR_times m x) m := ⟨⟨rfl, rfl, rfl, rfl, rfl, rfl, rfl, rfl, rfl, rfl, rfl, rfl, rfl, rfl⟩, rfl, rfl, rfl, rfl⟩
theorem mFr_known (m : mS) (x : Nat → Nat) : mFr (p_mR_known m x) m := ⟨⟨rfl, rfl, rfl, rfl, rfl, rfl, rfl, rfl, rfl, rfl, rfl, rfl, rfl, rfl⟩, rfl, rfl, rfl, rfl⟩
theorem mFr_results (m : mS) (x : Nat → Int64) : mFr (p_mR_results m x) m := ⟨⟨rfl, rfl, rfl, rfl, rfl, rfl, rfl, rfl, rfl, rfl, rfl, rfl, rfl, rfl⟩, rfl, rfl, rfl, rfl⟩
theorem mDone_fr (m : mS) (t a : Nat) : mFr (mDone m t a) m := (mFr_heap _ _).tr ((mFr_times _ _).tr ((mFr_known _ _).tr (mFr_results _ _)))
theorem zh_known (m : mS) (x : Nat) : mR_known (p_mR_heap m x) = mR_known m := rfl
theorem zh_results (m : mS) (x : Nat) : mR_results (p_mR_heap m x) = mR_results m := rfl
theorem zh_times (m : mS) (x : Nat) : mR_times (p_mR_heap m x) = mR_times m := rfl
theorem zt_known (m : mS) (x : Nat → Int32) : mR_known (p_mR_times m x) = mR_known m := rfl
theorem zt_results (m : mS) (x : Nat → Int32) : mR_results (p_mR_times m x) = mR_results m := rfl
theorem zk_results (m : mS) (x : Nat → Nat) : mR_results (p_mR_known m x) = mR_results m := rfl
theorem mDone_known (m : mS) (t a : Nat) : mR_known (mDone m t a) = upN (mR_known m) (mPl m t a) 2 := (zh_known _ _).trans (zt_known _ _)
theorem mDone_results (m : mS) (t a : Nat) : mR_results (mDone m t a) = vp_updL (mR_results m) (mPl m t a) (mRes m t a) := (zh_results _ _).trans ((zt_results _ _).trans (zk_results _ _))
theorem mDone_times (m : mS) (t a : Nat) : mR_times (mDone m t a) = upd (mR_times m) (8 * t + a) (mR_times m (8 * t + a) + nI 1) := zh_times _ _
theorem sRel_same {σ : cS} {m m' : mS} (h : mSame m' m) (hS : sRel σ m) : sRel σ m' := by
  obtain ⟨a1, a2, a3, a4, a5, a6, a7, a8, a9, a10, a11, a12, a13, a14⟩ := h
  obtain ⟨s1, s2, s3, s4, s5, s6, s7, s8, s9, s10, s11, s12, s13, s14⟩ := hS
  refine ⟨s1.trans a1.symm, s2.trans a3.symm, s3.trans a10.symm, s4.trans a11.symm, s5.trans a5.symm, ?_, s7.trans a2.symm, s8.trans a8.symm, s9.trans a12.symm, s10.trans a13.symm, s11.trans a14.symm, s12.trans a9.symm, s13.trans a6.symm, s14.trans a7.symm⟩
  intro t z i ht hz hi
  rw [a5] at hi
  rw [s6 t z i ht hz hi]
  show mR_standsFor m (mR_row m _) = mR_standsFor m' (mR_row m' _)
  rw [a3, a4]
theorem sInv_same {rk : Nat → Nat} {m m' : mS} (h : mSame m' m) (hV : sInv rk m) : sInv rk m' := by
  refine ⟨mB_same h hV.1, ?_, ?_⟩
  · obtain ⟨a1, a2, a3, a4, a5, a6, a7, a8, a9, -⟩ := h
    intro t z i ht hz hi
    rw [a1] at ht
    rw [a5] at hi
    show mR_standsFor m' (mR_row m' _) < t
    rw [a3, a4]
    exact hV.2.1 t z i ht hz hi
  · obtain ⟨a1, a2, a3, a4, a5, a6, a7, a8, a9, -⟩ := h
    intro a i ha hi
    rw [a2] at ha
    rw [a7] at hi
    rw [a6, a2]
    exact hV.2.2 a i ha hi
/-- the relation of what is known and made, by the fields that it reads -/
theorem dRel_of {σ : cS} {m m' : mS} (hd : dRel σ m) (h1 : mR_known m' = mR_known m) (h2 : mR_results m' = mR_results m) (h3 : mR_times m' = mR_times m) (h4 : mR_clashTold m' = mR_clashTold m) (h5 : mR_madeBy m' = mR_madeBy m) : dRel σ m' := by
  obtain ⟨d1, d2, d3, d4, d5⟩ := hd
  refine ⟨?_, d2.trans h2.symm, d3.trans h3.symm, d4.trans h4.symm, ?_⟩
  · rw [h1]; exact d1
  · rw [h5]; exact d5
theorem ix_inj {t a k t' a' k' : Nat} (ha : a < 8) (hk : k < 16) (ha' : a' < 8) (hk' : k' < 16) (h : (t * 8 + a) * 16 + k = (t' * 8 + a') * 16 + k') : t = t' ∧ a = a' ∧ k = k' := by omega
theorem ix_lt {t a k : Nat} (ht : t < 20) (ha : a < 8) (hk : k < 16) : (t * 8 + a) * 16 + k < 2560 := by omega
theorem upN_s (f : Nat → Nat) (k x : Nat) : upN f k x k = x := by unfold upN; rw [if_pos rfl]
theorem upN_n {f : Nat → Nat} {k x j : Nat} (h : ¬ j = k) : upN f k x j = f j := by unfold upN; rw [if_neg h]
theorem upd_s (f : Nat → Int32) (k : Nat) (x : Int32) : upd f k x k = x := pk_us
theorem upd_n {f : Nat → Int32} {k j : Nat} {x : Int32} (h : ¬ j = k) : upd f k x j = f j := pk_un h
/-- a setting's bit is set in a pair's mask: what a test says then -/
theorem bt_upd {f : Nat → Int32} {p k p' k' : Nat} (hk : k < 32) (hk' : k' < 32) : bt (upd f p (f p ||| (nI 1 <<< (nI k &&& 31))) p') k' = (bt (f p') k' || (decide (p' = p) && decide (k' = k))) := by
  by_cases h : p' = p
  · subst h
    rw [upd_s, bt_set hk hk']
    simp
  · rw [upd_n h]
    simp [h]
theorem st_pass {σ : cS} {t a k t' a' k' : Nat} (ht : t < 20) (ha : a < 8) (hk : k < 16) (ha' : a' < 8) (hk' : k' < 16) (h0 : cSt σ t a k = 0) : cSt (cKeepPassed σ t a k) t' a' k' = if (t' * 8 + a') * 16 + k' = (t * 8 + a) * 16 + k then 1 else cSt σ t' a' k' := by
  unfold cSt
  show (if bt (cM_doneSettings σ (t' * 8 + a')) k' = true then 2 else if bt (upd (cM_passedSettings σ) (t * 8 + a) (cM_passedSettings σ (t * 8 + a) ||| (nI 1 <<< (nI k &&& 31))) (t' * 8 + a')) k' = true then 1 else 0) = _
  rw [bt_upd (by omega) (by omega)]
  by_cases h : (t' * 8 + a') * 16 + k' = (t * 8 + a) * 16 + k
  · obtain ⟨rfl, rfl, rfl⟩ := ix_inj ha' hk' ha hk h
    rw [if_pos rfl]
    unfold cSt at h0
    split at h0
    · exact absurd h0 (by decide)
    · rename_i h1
      rw [if_neg h1]
      simp
  · rw [if_neg h]
    have h1 : (decide (t' * 8 + a' = t * 8 + a) && decide (k' = k)) = false := by
      by_cases e1 : t' * 8 + a' = t * 8 + a
      · by_cases e2 : k' = k
        · exact absurd (by rw [e1, e2]) h
        · simp [e2]
      · simp [e1]
    rw [h1, Bool.or_false]
theorem st_done {σ : cS} {t a k t' a' k' : Nat} (v : Int64) (ht : t < 20) (ha : a < 8) (hk : k < 16) (ha' : a' < 8) (hk' : k' < 16) : cSt (cKeepDone σ t a k v) t' a' k' = if (t' * 8 + a') * 16 + k' = (t * 8 + a) * 16 + k then 2 else cSt σ t' a' k' := by
  unfold cSt
  show (if bt (upd (cM_doneSettings σ) (t * 8 + a) (cM_doneSettings σ (t * 8 + a) ||| (nI 1 <<< (nI k &&& 31))) (t' * 8 + a')) k' = true then 2 else if bt (cM_passedSettings σ (t' * 8 + a')) k' = true then 1 else 0) = _
  rw [bt_upd (by omega) (by omega)]
  by_cases h : (t' * 8 + a') * 16 + k' = (t * 8 + a) * 16 + k
  · obtain ⟨rfl, rfl, rfl⟩ := ix_inj ha' hk' ha hk h
    rw [if_pos rfl]
    simp
  · rw [if_neg h]
    have h1 : (decide (t' * 8 + a' = t * 8 + a) && decide (k' = k)) = false := by
      by_cases e1 : t' * 8 + a' = t * 8 + a
      · by_cases e2 : k' = k
        · exact absurd (by rw [e1, e2]) h
        · simp [e2]
      · simp [e1]
    rw [h1, Bool.or_false]
/-- as dInv, but that one doing, which is about to be done, may have made its output already -/
def dInvX (σ : cS) (m : mS) (t0 a0 k0 : Nat) : Prop := (∀ t a k, t < 20 → a < 8 → k < 16 → ¬ mR_known m ((t * 8 + a) * 16 + k) = 0 → t < mR_targets m ∧ a < mR_aspects m) ∧ (∀ t n a k, t < 20 → n < 10 → a < 8 → k < 16 → mR_madeBy m (10 * t + n) = nI (16 * a + k) → mR_nameOf m a = nI n ∧ (mR_known m ((t * 8 + a) * 16 + k) = 2 ∨ (t = t0 ∧ a = a0 ∧ k = k0))) ∧ (∀ q, mR_known m q ≤ 2) ∧ mMb m ∧ cM_nowDone σ = nI (zCnt (mR_known m) 2560) ∧ (∀ p k, 16 ≤ k → bt (cM_doneSettings σ p) k = false)
theorem dInv.X {σ : cS} {m : mS} (h : dInv σ m) (t0 a0 k0 : Nat) : dInvX σ m t0 a0 k0 := by
  obtain ⟨h1, h2, h3⟩ := h
  exact ⟨h1, fun t n a k ht hn ha hk e => ⟨(h2 t n a k ht hn ha hk e).1, Or.inl (h2 t n a k ht hn ha hk e).2⟩, h3⟩
/-- passing -/
theorem full_pass {rk : Nat → Nat} {σ : cS} {m : mS} (hf : full rk σ m) {t a k : Nat} (ht : t < mR_targets m) (ha : a < mR_aspects m) (hk : k < 16) (hu : mR_known m ((t * 8 + a) * 16 + k) = 0) (h9 : Nat) : full rk (cKeepPassed σ t a k) (p_mR_heap (p_mR_known m (upN (mR_known m) ((t * 8 + a) * 16 + k) 1)) h9) := by
  obtain ⟨hS, hd, ⟨i1, i2, i3, i4, i5, i6⟩, hV⟩ := hf
  have ht20 : t < 20 := Nat.lt_of_lt_of_le ht hV.1.1
  have ha8 : a < 8 := Nat.lt_of_lt_of_le ha hV.1.2.1
  have h0 : cSt σ t a k = 0 := by rw [← hd.1 t a k ht20 ha8 hk]; exact hu
  refine ⟨hS, ⟨?_, hd.2.1, hd.2.2.1, hd.2.2.2.1, hd.2.2.2.2⟩, ⟨?_, ?_, ?_, i4, ?_, i6⟩, hV⟩
  · intro t' a' k' ht' ha' hk'
    show upN (mR_known m) ((t * 8 + a) * 16 + k) 1 ((t' * 8 + a') * 16 + k') = _
    rw [st_pass ht20 ha8 hk ha' hk' h0]
    by_cases h : (t' * 8 + a') * 16 + k' = (t * 8 + a) * 16 + k
    · rw [if_pos h, h, upN_s]
    · rw [if_neg h, upN_n h]
      exact hd.1 t' a' k' ht' ha' hk'
  · intro t' a' k' ht' ha' hk' hne
    by_cases h : (t' * 8 + a') * 16 + k' = (t * 8 + a) * 16 + k
    · obtain ⟨rfl, rfl, rfl⟩ := ix_inj ha' hk' ha8 hk h
      exact ⟨ht, ha⟩
    · exact i1 t' a' k' ht' ha' hk' (fun q => hne (by show upN _ _ _ _ = 0; rw [upN_n h]; exact q))
  · intro t' n a' k' ht' hn ha' hk' e
    obtain ⟨e1, e2⟩ := i2 t' n a' k' ht' hn ha' hk' e
    refine ⟨e1, ?_⟩
    show upN _ _ _ _ = 2
    rw [upN_n (fun q => by rw [q, hu] at e2; exact absurd e2 (by decide))]
    exact e2
  · exact upN_le i3 (by decide)
  · show cM_nowDone σ = nI (zCnt (upN (mR_known m) ((t * 8 + a) * 16 + k) 1) 2560)
    rw [zCnt_keep (by rw [hu]; decide) (by decide)]
    exact i5
/-- ending -/
theorem full_done {rk : Nat → Nat} {σ : cS} {m : mS} (hS : sRel σ m) (hd : dRel σ m) {t a k : Nat} (hI : dInvX σ m t a k) (hV : sInv rk m) (ht : t < mR_targets m) (ha : a < mR_aspects m) (hk : k < 16) (hs : mR_setting m = k) (hu : mR_known m ((t * 8 + a) * 16 + k) = 0) : full rk (cKeepDone σ t a k (cJoined σ t a k)) (mDone m t a) := by
  obtain ⟨i1, i2, i3, i4, i5, i6⟩ := hI
  have ht20 : t < 20 := Nat.lt_of_lt_of_le ht hV.1.1
  have ha8 : a < 8 := Nat.lt_of_lt_of_le ha hV.1.2.1
  have hj := joined_eq (σ := σ) (m := m) ⟨hS, hd, i3, hV.1⟩ ht20 ha8 hk hs
  have hkn : mR_known (mDone m t a) = upN (mR_known m) ((t * 8 + a) * 16 + k) 2 := by rw [mDone_known]; show upN _ ((t * 8 + a) * 16 + mR_setting m) 2 = _; rw [hs]
  have hrs := mDone_results m t a
  have htm := mDone_times m t a
  obtain ⟨f1, f2, f3, f4, f5⟩ := mDone_fr m t a
  have hS2 : sRel σ (mDone m t a) := sRel_same f1 hS
  have hV2 : sInv rk (mDone m t a) := sInv_same f1 hV
  have fT := f1.1
  have fA := f1.2.1
  have fN := f1.2.2.2.2.2.2.2.2.1
  generalize mDone m t a = m2 at *
  refine ⟨hS2, ⟨?_, ?_, ?_, ?_, ?_⟩, ⟨?_, ?_, ?_, ?_, ?_, ?_⟩, hV2⟩
  · intro t' a' k' ht' ha' hk'
    rw [hkn, st_done _ ht20 ha8 hk ha' hk']
    by_cases h : (t' * 8 + a') * 16 + k' = (t * 8 + a) * 16 + k
    · rw [if_pos h, h, upN_s]
    · rw [if_neg h, upN_n h]
      exact hd.1 t' a' k' ht' ha' hk'
  · rw [hrs]
    show vp_updL (cM_results σ) ((t * 8 + a) * 16 + k) (cJoined σ t a k) = vp_updL (mR_results m) ((t * 8 + a) * 16 + mR_setting m) (mRes m t a)
    rw [hd.2.1, hs, hj]
  · rw [htm]
    show upd (cM_doneTimes σ) (t * 8 + a) (cM_doneTimes σ (t * 8 + a) + nI 1) = _
    rw [hd.2.2.1, show t * 8 + a = 8 * t + a by omega]
  · rw [f2]; exact hd.2.2.2.1
  · rw [f3]; exact hd.2.2.2.2
  · intro t' a' k' ht' ha' hk' hne
    rw [hkn] at hne
    rw [fT, fA]
    by_cases h : (t' * 8 + a') * 16 + k' = (t * 8 + a) * 16 + k
    · obtain ⟨rfl, rfl, rfl⟩ := ix_inj ha' hk' ha8 hk h
      exact ⟨ht, ha⟩
    · rw [upN_n h] at hne
      exact i1 t' a' k' ht' ha' hk' hne
  · intro t' n a' k' ht' hn ha' hk' e
    rw [f3] at e
    obtain ⟨e1, e2⟩ := i2 t' n a' k' ht' hn ha' hk' e
    refine ⟨by rw [fN]; exact e1, ?_⟩
    rw [hkn]
    by_cases h : (t' * 8 + a') * 16 + k' = (t * 8 + a) * 16 + k
    · rw [h, upN_s]
    · rw [upN_n h]
      rcases e2 with e2 | ⟨rfl, rfl, rfl⟩
      · exact e2
      · exact absurd rfl h
  · rw [hkn]
    exact upN_le i3 (by decide)
  · intro q
    rw [f3]
    exact i4 q
  · rw [hkn, zCnt_set (by rw [hu]; decide) (ix_lt ht20 ha8 hk)]
    show cM_nowDone σ + nI 1 = _
    rw [i5, nI_add]
  · intro p kk hkk
    show bt (upd (cM_doneSettings σ) (t * 8 + a) (cM_doneSettings σ (t * 8 + a) ||| (nI 1 <<< (nI k &&& 31))) p) kk = false
    rcases Nat.lt_or_ge kk 32 with h | h
    · rw [bt_upd (by omega) h, i6 p kk hkk]
      simp
      omega
    · exact b_big h
/-- making: both make, or both clash -/
theorem make_eq {rk : Nat → Nat} {σ : cS} {m : mS} (hf : full rk σ m) {t a k : Nat} (ht : t < mR_targets m) (ha : a < mR_aspects m) (hk : k < 16) (hs : mR_setting m = k) (hu : mR_known m ((t * 8 + a) * 16 + k) = 0) :
    ((cMake σ t a k).1 = 1 ∧ (mMakes m t a).1 = 1 ∧ sRel (cMake σ t a k).2 (mMakes m t a).2 ∧ dRel (cMake σ t a k).2 (mMakes m t a).2 ∧ dInvX (cMake σ t a k).2 (mMakes m t a).2 t a k) ∨
    ((cMake σ t a k).1 = 0 ∧ (mMakes m t a).1 = 0 ∧ full rk (cMake σ t a k).2 (mMakes m t a).2) := by
  obtain ⟨hS, hd, hI, hV⟩ := id hf
  have ht20 : t < 20 := Nat.lt_of_lt_of_le ht hV.1.1
  have ha8 : a < 8 := Nat.lt_of_lt_of_le ha hV.1.2.1
  have hnm : cA_names σ a = mR_nameOf m a := by rw [hS.2.2.2.2.2.2.2.2.2.2.2.1]
  rcases hV.1.2.2.2.2.2.2.2.2 a with hq | ⟨q, hq10, hq⟩
  · left
    have e1 : cMake σ t a k = (1, σ) := by unfold cMake; rw [hnm, if_pos hq]
    have e2 : mMakes m t a = (1, m) := by unfold mMakes; rw [if_pos hq]
    rw [e1, e2]
    exact ⟨rfl, rfl, hS, hd, hI.X t a k⟩
  · have hne : ¬ nI q = -1 := nI_ne_m1 (by omega)
    have hcl := nI_clamp (n := q) (by omega)
    rcases hd.2.2.2.2 t q ht20 hq10 with ⟨m1, m2⟩ | ⟨a', k', ha', hk', m1, m2, m3⟩
    · left
      have e1 : cMake σ t a k = (1, cKeepMaker σ t q a k) := by unfold cMake; rw [hnm, hq, if_neg hne, hcl, if_pos m1]
      have e2 : mMakes m t a = (1, p_mR_madeBy m (upd (mR_madeBy m) (10 * t + q) (nI (16 * a + k)))) := by unfold mMakes; rw [hq, if_neg hne, hcl, if_pos (Or.inl m2), hs]
      rw [e1, e2]
      refine ⟨rfl, rfl, hS, ⟨hd.1, hd.2.1, hd.2.2.1, hd.2.2.2.1, ?_⟩, ⟨hI.1, ?_, hI.2.2.1, ?_, hI.2.2.2.2.1, hI.2.2.2.2.2⟩⟩
      · intro t' n' ht' hn'
        show (upd (cM_makers σ) (t * 10 + q) (nI a) (t' * 10 + n') = -1 ∧ upd (mR_madeBy m) (10 * t + q) (nI (16 * a + k)) (10 * t' + n') = -1) ∨ ∃ a k_1, a < 8 ∧ k_1 < 16 ∧ upd (cM_makers σ) (t * 10 + q) _ (t' * 10 + n') = nI a ∧ upN (cM_makerSettings σ) (t * 10 + q) k (t' * 10 + n') = k_1 ∧ upd (mR_madeBy m) (10 * t + q) _ (10 * t' + n') = nI (16 * a + k_1)
        by_cases h : t' * 10 + n' = t * 10 + q
        · right
          exact ⟨a, k, ha8, hk, by rw [h, upd_s], by rw [h, upN_s], by rw [show 10 * t' + n' = 10 * t + q by omega, upd_s]⟩
        · rw [upd_n h, upN_n h, upd_n (show ¬ 10 * t' + n' = 10 * t + q by omega)]
          exact hd.2.2.2.2 t' n' ht' hn'
      · intro t' n' a' k' ht' hn' ha' hk' e
        have e : upd (mR_madeBy m) (10 * t + q) (nI (16 * a + k)) (10 * t' + n') = nI (16 * a' + k') := e
        by_cases h : 10 * t' + n' = 10 * t + q
        · rw [h, upd_s, nI_eq (by omega) (by omega)] at e
          have g1 : t' = t := by omega
          have g2 : n' = q := by omega
          have g3 : a' = a := by omega
          have g4 : k' = k := by omega
          subst g1; subst g2; subst g3; subst g4
          exact ⟨hq, Or.inr ⟨rfl, rfl, rfl⟩⟩
        · rw [upd_n h] at e
          obtain ⟨g1, g2⟩ := hI.2.1 t' n' a' k' ht' hn' ha' hk' e
          exact ⟨g1, Or.inl g2⟩
      · intro x
        show upd (mR_madeBy m) (10 * t + q) (nI (16 * a + k)) x = -1 ∨ ∃ n, n < 128 ∧ upd (mR_madeBy m) (10 * t + q) _ x = nI n
        by_cases h : x = 10 * t + q
        · right
          exact ⟨16 * a + k, by omega, by rw [h, upd_s]⟩
        · rw [upd_n h]
          exact hI.2.2.2.1 x
    · right
      have h1 : ¬ cM_makers σ (t * 10 + q) = -1 := by rw [m1]; exact nI_ne_m1 (by omega)
      have h2 : ¬ mR_madeBy m (10 * t + q) = -1 := by rw [m3]; exact nI_ne_m1 (by omega)
      have h3 : ¬ mR_madeBy m (10 * t + q) = nI (16 * a + mR_setting m) := by
        rw [m3, hs, nI_eq (by omega) (by omega)]
        intro h
        have g3 : a' = a := by omega
        have g4 : k' = k := by omega
        subst g3; subst g4
        have := (hI.2.1 t q a' k' ht20 hq10 ha' hk' m3).2
        rw [hu] at this
        exact absurd this (by decide)
      have e1 : cMake σ t a k = (0, cClash σ t a k q) := by unfold cMake; rw [hnm, hq, if_neg hne, hcl, if_neg h1]
      have e2 : mMakes m t a = (0, mTell m t a q (16 * a' + k')) := by unfold mMakes; rw [hq, if_neg hne, hcl, if_neg (fun h => h.elim h2 h3), m3, nI_clamp (by omega)]
      rw [e1, e2]
      refine ⟨rfl, rfl, hS, ⟨hd.1, hd.2.1, hd.2.2.1, ?_, hd.2.2.2.2⟩, hI, hV⟩
      show upd (upd (upd (upd (upd (cW_clash σ) 0 (nI t)) 1 (nI a)) 2 (nI k)) 3 (cM_makers σ (t * 10 + q))) 4 (nI (cM_makerSettings σ (t * 10 + q))) = upd (upd (upd (upd (upd (mR_clashTold m) 0 (nI t)) 1 (nI a)) 2 (nI (mR_setting m))) 3 (nI ((16 * a' + k') / 16))) 4 (nI ((16 * a' + k') % 16))
      rw [m1, m2, hs, hd.2.2.2.1, show (16 * a' + k') / 16 = a' by omega, show (16 * a' + k') % 16 = k' by omega]
