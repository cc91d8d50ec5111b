/-! the reference's stack: its steps, one after another -/
def Run (m : mS) (n : Nat) : Prop := ∀ i, i < n → mGoOk (mIter m i)
theorem mIter_add (n1 n2 : Nat) : ∀ m : mS, mIter m (n1 + n2) = mIter (mIter m n1) n2 := by
  induction n1 with
  | zero => intro m; rw [Nat.zero_add]; rfl
  | succ n1 ih =>
    intro m
    rw [show n1 + 1 + n2 = (n1 + n2) + 1 by omega, mIter, mIter]
    exact ih (mGo m)
theorem Run.add {m : mS} {n1 n2 : Nat} (h1 : Run m n1) (h2 : Run (mIter m n1) n2) : Run m (n1 + n2) := by
  intro i hi
  rcases Nat.lt_or_ge i n1 with h | h
  · exact h1 i h
  · have h3 := h2 (i - n1) (by omega)
    rw [← mIter_add, show n1 + (i - n1) = i by omega] at h3
    exact h3
theorem Run.one {m : mS} (h : mGoOk m) : Run m 1 := fun i hi => by rw [show i = 0 by omega]; exact h
theorem Run.zero (m : mS) : Run m 0 := fun i hi => absurd hi (Nat.not_lt_zero i)
theorem mIter_1 (m : mS) : mIter m 1 = mGo m := rfl
def Keep (m m2 : mS) : Prop := mSame m2 m ∧ mR_setting m2 = mR_setting m ∧ mR_touched m2 = mR_touched m ∧ (∀ q, ¬ mR_known m q = 0 → mR_known m2 q = mR_known m q)
theorem Keep.rf (m : mS) : Keep m m := ⟨mSame.rf m, rfl, rfl, fun _ _ => rfl⟩
theorem Keep.tr {a b c : mS} (h1 : Keep a b) (h2 : Keep b c) : Keep a c := ⟨h2.1.tr h1.1, h2.2.1.trans h1.2.1, h2.2.2.1.trans h1.2.2.1, fun q h => (h2.2.2.2 q (by rw [h1.2.2.2 q h]; exact h)).trans (h1.2.2.2 q h)⟩
theorem Keep.ne {a b : mS} (h : Keep a b) {q : Nat} (h0 : ¬ mR_known a q = 0) : ¬ mR_known b q = 0 := by rw [h.2.2.2 q h0]; exact h0
theorem Keep.fr {m m2 : mS} (h : mFr m2 m) (hk : mR_known m2 = mR_known m) : Keep m m2 := ⟨h.1, h.2.2.2.1, h.2.2.2.2, fun q _ => by rw [hk]⟩
def Stk (m m2 : mS) : Prop := mR_heap m2 = mR_heap m ∧ ∀ i, i < mR_heap m → mR_heapTarget m2 i = mR_heapTarget m i ∧ mR_heapAspect m2 i = mR_heapAspect m i
theorem Stk.rf (m : mS) : Stk m m := ⟨rfl, fun _ _ => ⟨rfl, rfl⟩⟩
theorem Stk.tr {a b c : mS} (h1 : Stk a b) (h2 : Stk b c) : Stk a c := ⟨h2.1.trans h1.1, fun i hi => ⟨(h2.2 i (by rw [h1.1]; exact hi)).1.trans (h1.2 i hi).1, (h2.2 i (by rw [h1.1]; exact hi)).2.trans (h1.2 i hi).2⟩⟩
theorem mFr_hT (m : mS) (x : Nat → Nat) : mFr (p_mR_heapTarget m x) m := ⟨⟨rfl, rfl, rfl, rfl, rfl, rfl, rfl, rfl, rfl, rfl, rfl, rfl, rfl, rfl⟩, rfl, rfl, rfl, rfl⟩
theorem mFr_hA (m : mS) (x : Nat → Nat) : mFr (p_mR_heapAspect m x) m := ⟨⟨rfl, rfl, rfl, rfl, rfl, rfl, rfl, rfl, rfl, rfl, rfl, rfl, rfl, rfl⟩, rfl, rfl, rfl, rfl⟩
theorem mFr_clashes (m : mS) (x : Nat) : mFr (p_mR_clashes m x) m := ⟨⟨rfl, rfl, rfl, rfl, rfl, rfl, rfl, rfl, rfl, rfl, rfl, rfl, rfl, rfl⟩, rfl, rfl, rfl, rfl⟩
theorem push_fr (m : mS) (t a : Nat) : mFr (mPush m t a) m := (mFr_heap _ _).tr ((mFr_hA _ _).tr (mFr_hT _ _))
theorem push_known (m : mS) (t a : Nat) : mR_known (mPush m t a) = mR_known m := rfl
theorem push_results (m : mS) (t a : Nat) : mR_results (mPush m t a) = mR_results m := rfl
theorem push_times (m : mS) (t a : Nat) : mR_times (mPush m t a) = mR_times m := rfl
theorem push_clashes (m : mS) (t a : Nat) : mR_clashes (mPush m t a) = mR_clashes m := rfl
theorem push_heap (m : mS) (t a : Nat) : mR_heap (mPush m t a) = mR_heap m + 1 := rfl
theorem push_hT (m : mS) (t a : Nat) : mR_heapTarget (mPush m t a) = upN (mR_heapTarget m) (mR_heap m) t := rfl
theorem push_hA (m : mS) (t a : Nat) : mR_heapAspect (mPush m t a) = upN (mR_heapAspect m) (mR_heap m) a := rfl
theorem dInv_of {σ : cS} {m m' : mS} (h : mFr m' m) (hk : mR_known m' = mR_known m) (hI : dInv σ m) : dInv σ m' := by
  obtain ⟨⟨a1, a2, a3, a4, a5, a6, a7, a8, a9, -⟩, f2, f3, f4, f5⟩ := h
  obtain ⟨i1, i2, i3, i4, i5, i6⟩ := hI
  refine ⟨?_, ?_, ?_, ?_, ?_, i6⟩
  · rw [hk, a1, a2]; exact i1
  · rw [hk, f3, a9]; exact i2
  · rw [hk]; exact i3
  · intro q; rw [f3]; exact i4 q
  · rw [hk]; exact i5
theorem full_of {rk : Nat → Nat} {σ : cS} {m m' : mS} (hf : full rk σ m) (h : mFr m' m) (hk : mR_known m' = mR_known m) (hr : mR_results m' = mR_results m) (ht : mR_times m' = mR_times m) : full rk σ m' :=
  ⟨sRel_same h.1 hf.1, dRel_of hf.2.1 hk hr ht h.2.1 h.2.2.1, dInv_of h hk hf.2.2.1, sInv_same h.1 hf.2.2.2⟩
theorem full_push {rk : Nat → Nat} {σ : cS} {m : mS} (hf : full rk σ m) (t a : Nat) : full rk σ (mPush m t a) := full_of hf (push_fr m t a) rfl rfl rfl
/-- (t, a) lies on top -/
def Top (m : mS) (t a : Nat) : Prop := 1 ≤ mR_heap m ∧ mR_heapTarget m (mR_heap m - 1) = t ∧ mR_heapAspect m (mR_heap m - 1) = a
theorem Top.push (m : mS) (t a : Nat) : Top (mPush m t a) t a := by
  unfold Top
  rw [push_heap, push_hT, push_hA, Nat.add_sub_cancel, upN_s, upN_s]
  exact ⟨by omega, rfl, rfl⟩
theorem Top.stk {m m2 : mS} {t a : Nat} (h : Top m t a) (hs : Stk m m2) : Top m2 t a := by
  obtain ⟨h1, h2, h3⟩ := h
  unfold Top
  rw [hs.1]
  have h4 := hs.2 (mR_heap m - 1) (by omega)
  exact ⟨h1, h4.1.trans h2, h4.2.trans h3⟩
theorem ok_of {rk : Nat → Nat} {σ : cS} {m : mS} {t a k : Nat} (hf : full rk σ m) (hk : k < 16) (hs : mR_setting m = k) (hT : Top m t a) (hh : mR_heap m < 170) (ht : t < 20) (ha : a < 8) : mGoOk m :=
  ⟨hf.2.2.2.1, hf.2.2.1.2.2.2.1, hf.2.2.1.2.2.1, by rw [hs]; exact hk, hT.1, hh, by rw [hT.2.1]; exact ht, by rw [hT.2.2]; exact ha⟩
theorem wn_first {m : mS} {t a i : Nat} (h0 : mR_known m (mPl m t (mR_needs m (3 * a + i))) = 0) : ∀ (j i0 : Nat), i0 ≤ i → i < i0 + j → (∀ i', i0 ≤ i' → i' < i → ¬ mR_known m (mPl m t (mR_needs m (3 * a + i'))) = 0) → mWN m t a j i0 = (1, mPush m t (mR_needs m (3 * a + i))) := by
  intro j
  induction j with
  | zero => intro i0 h1 h2; omega
  | succ j ih =>
    intro i0 h1 h2 hb
    rw [mWN]
    by_cases e : i0 = i
    · subst e
      rw [if_pos h0]
    · rw [if_neg (hb i0 (Nat.le_refl _) (by omega))]
      exact ih (i0 + 1) (by omega) (by omega) (fun i' g1 g2 => hb i' (by omega) g2)
theorem wn_none {m : mS} {t a : Nat} : ∀ (j i0 : Nat), (∀ i', i0 ≤ i' → i' < i0 + j → ¬ mR_known m (mPl m t (mR_needs m (3 * a + i'))) = 0) → mWN m t a j i0 = (0, m) := by
  intro j
  induction j with
  | zero => intro i0 _; rfl
  | succ j ih =>
    intro i0 hb
    rw [mWN, if_neg (hb i0 (Nat.le_refl _) (by omega))]
    exact ih (i0 + 1) (fun i' g1 g2 => hb i' (by omega) (by omega))
theorem wti_first {m : mS} {t a z i : Nat} (h0 : mR_known m (mPl m (mU m t z i) a) = 0) : ∀ (j i0 : Nat), i0 ≤ i → i < i0 + j → (∀ i', i0 ≤ i' → i' < i → ¬ mR_known m (mPl m (mU m t z i') a) = 0) → mWTi m t a z j i0 = (1, mPush m (mU m t z i) a) := by
  intro j
  induction j with
  | zero => intro i0 h1 h2; omega
  | succ j ih =>
    intro i0 h1 h2 hb
    rw [mWTi]
    by_cases e : i0 = i
    · subst e
      rw [if_pos h0]
    · rw [if_neg (hb i0 (Nat.le_refl _) (by omega))]
      exact ih (i0 + 1) (by omega) (by omega) (fun i' g1 g2 => hb i' (by omega) g2)
theorem wti_none {m : mS} {t a z : Nat} : ∀ (j i0 : Nat), (∀ i', i0 ≤ i' → i' < i0 + j → ¬ mR_known m (mPl m (mU m t z i') a) = 0) → mWTi m t a z j i0 = (0, m) := by
  intro j
  induction j with
  | zero => intro i0 _; rfl
  | succ j ih =>
    intro i0 hb
    rw [mWTi, if_neg (hb i0 (Nat.le_refl _) (by omega))]
    exact ih (i0 + 1) (fun i' g1 g2 => hb i' (by omega) (by omega))
/-- all below in the attribute z, if it goes along it, is known -/
def Below (m : mS) (t a z : Nat) : Prop := (mR_along m a >>> (nI z &&& 31)) &&& nI 1 = nI 1 → ∀ i, i < mR_rowSize m (3 * t + z) → ¬ mR_known m (mPl m (mU m t z i) a) = 0
theorem wt_first {m : mS} {t a z i : Nat} (hbit : (mR_along m a >>> (nI z &&& 31)) &&& nI 1 = nI 1) (hi : i < mR_rowSize m (3 * t + z)) (h0 : mR_known m (mPl m (mU m t z i) a) = 0) (hb : ∀ i', i' < i → ¬ mR_known m (mPl m (mU m t z i') a) = 0) : ∀ (j z0 : Nat), z0 ≤ z → z < z0 + j → (∀ z', z0 ≤ z' → z' < z → Below m t a z') → mWT m t a j z0 = (1, mPush m (mU m t z i) a) := by
  intro j
  induction j with
  | zero => intro z0 h1 h2; omega
  | succ j ih =>
    intro z0 h1 h2 hB
    rw [mWT]
    by_cases e : z0 = z
    · subst e
      rw [if_pos hbit, wti_first h0 _ 0 (Nat.zero_le _) (by omega) (fun i' _ g => hb i' g), if_neg (show ¬ (1 : Nat) = 0 by decide)]
    · have h3 := ih (z0 + 1) (by omega) (by omega) (fun z' g1 g2 => hB z' (by omega) g2)
      by_cases h4 : (mR_along m a >>> (nI z0 &&& 31)) &&& nI 1 = nI 1
      · rw [if_pos h4, wti_none _ 0 (fun i' _ g => hB z0 (Nat.le_refl _) (by omega) h4 i' (by omega)), if_pos rfl]
        exact h3
      · rw [if_neg h4]
        exact h3
theorem wt_none {m : mS} {t a : Nat} : ∀ (j z0 : Nat), (∀ z', z0 ≤ z' → z' < z0 + j → Below m t a z') → mWT m t a j z0 = (0, m) := by
  intro j
  induction j with
  | zero => intro z0 _; rfl
  | succ j ih =>
    intro z0 hB
    rw [mWT]
    have h3 := ih (z0 + 1) (fun z' g1 g2 => hB z' (by omega) (by omega))
    by_cases h4 : (mR_along m a >>> (nI z0 &&& 31)) &&& nI 1 = nI 1
    · rw [if_pos h4, wti_none _ 0 (fun i' _ g => hB z0 (Nat.le_refl _) (by omega) h4 i' (by omega)), if_pos rfl]
      exact h3
    · rw [if_neg h4]
      exact h3
theorem go_need {m x : mS} {t a : Nat} (hT : Top m t a) (h : mWN m t a (mR_needMany m a) 0 = (1, x)) : mGo m = x := by
  unfold mGo
  rw [hT.2.1, hT.2.2, h, if_neg (show ¬ (1 : Nat) = 0 by decide)]
theorem go_pass {m : mS} {t a : Nat} (hT : Top m t a) (h : mWN m t a (mR_needMany m a) 0 = (0, m)) (h2 : mAll m t a = 0) : mGo m = p_mR_heap (p_mR_known m (upN (mR_known m) (mPl m t a) 1)) (mR_heap m - 1) := by
  unfold mGo
  rw [hT.2.1, hT.2.2, h, if_pos rfl, if_pos h2]
theorem go_tgt {m x : mS} {t a : Nat} (hT : Top m t a) (h : mWN m t a (mR_needMany m a) 0 = (0, m)) (h2 : ¬ mAll m t a = 0) (h3 : mWT m t a 3 0 = (1, x)) : mGo m = x := by
  unfold mGo
  rw [hT.2.1, hT.2.2, h, if_pos rfl, if_neg h2, h3, if_neg (show ¬ (1 : Nat) = 0 by decide)]
theorem go_clash {m : mS} {t a : Nat} (hT : Top m t a) (h : mWN m t a (mR_needMany m a) 0 = (0, m)) (h2 : ¬ mAll m t a = 0) (h3 : mWT m t a 3 0 = (0, m)) (h4 : (mMakes m t a).1 = 0) : mGo m = p_mR_heap (p_mR_clashes (mMakes m t a).2 1) 0 := by
  unfold mGo
  rw [hT.2.1, hT.2.2, h, if_pos rfl, if_neg h2, h3, if_pos rfl, if_pos h4]
theorem go_done {m : mS} {t a : Nat} (hT : Top m t a) (h : mWN m t a (mR_needMany m a) 0 = (0, m)) (h2 : ¬ mAll m t a = 0) (h3 : mWT m t a 3 0 = (0, m)) (h4 : ¬ (mMakes m t a).1 = 0) : mGo m = mDone (mMakes m t a).2 t a := by
  unfold mGo
  rw [hT.2.1, hT.2.2, h, if_pos rfl, if_neg h2, h3, if_pos rfl, if_neg h4]
theorem of_keep {m m2 : mS} (h : Keep m m2) {t a : Nat} (hN : ∀ i, i < mR_needMany m a → ¬ mR_known m (mPl m t (mR_needs m (3 * a + i))) = 0) (i : Nat) (hi : i ≤ mR_needMany m a) : mOf m2 t a i = mOf m t a i := by
  obtain ⟨⟨a1, a2, a3, a4, a5, a6, a7, a8, a9, a10, a11, a12, a13, a14⟩, k2, k3, k4⟩ := h
  induction i with
  | zero => unfold mOf; rw [a11]
  | succ i ih =>
    unfold mOf
    rw [ih (by omega), a6, a14]
    have e1 : mPl m2 t (mR_needs m (3 * a + i)) = mPl m t (mR_needs m (3 * a + i)) := by unfold mPl; rw [k2]
    rw [e1, k4 _ (hN i (by omega))]
theorem all_keep {m m2 : mS} (h : Keep m m2) {t a : Nat} (hN : ∀ i, i < mR_needMany m a → ¬ mR_known m (mPl m t (mR_needs m (3 * a + i))) = 0) : mAll m2 t a = mAll m t a := by
  unfold mAll
  rw [h.1.2.2.2.2.2.2.1, of_keep h hN _ (Nat.le_refl _), h.1.2.2.2.2.2.2.2.2.2.2.2.2.1]
theorem Below.keep {m m2 : mS} (h : Keep m m2) {t a z : Nat} (hB : Below m t a z) : Below m2 t a z := by
  obtain ⟨⟨a1, a2, a3, a4, a5, a6, a7, a8, a9, a10, a11, a12, a13, a14⟩, k2, k3, k4⟩ := h
  intro hb i hi
  rw [a12] at hb
  rw [a5] at hi
  have h1 := hB hb i hi
  have e1 : mPl m2 (mU m2 t z i) a = mPl m (mU m t z i) a := by unfold mPl mU; rw [k2, a3, a4]
  rw [e1, k4 _ h1]
  exact h1
