/-- the outer loop of what lies below -/
theorem below_run {rk : Nat → Nat} {T : cTS} {S : cAS} {k d : Nat} (hk : k < 16) (ih : DoOne rk T S k d) {t a : Nat} (μ0 : cMu) : ∀ (j z : Nat) (μ : cMu) (m : mS), full rk (T, S, μ) m → mR_setting m = k → t < mR_targets m → a < mR_aspects m → t + rk a < d + 1 → Top m t a → mR_heap m + d < 170 → mR_clashes m = 0 → (∀ i', i' < mR_needMany m a → ¬ mR_known m (mPl m t (mR_needs m (3 * a + i'))) = 0) → ¬ mAll m t a = 0 → (∀ z', z' < z → Below m t a z') → z + j = 3 →
    ∃ n, Run m n ∧ Oc rk (t + rk a) (T, S, (dBelow (fun μ z i => cDo T S d μ (cT_rows (T, S, μ) ((t * 3 + z) * 4 + i)) a k) (cLen (T, S, μ0) t a) j z μ).2) m (mIter m n) (dBelow (fun μ z i => cDo T S d μ (cT_rows (T, S, μ) ((t * 3 + z) * 4 + i)) a k) (cLen (T, S, μ0) t a) j z μ).1 ∧ (0 ≤ (dBelow (fun μ z i => cDo T S d μ (cT_rows (T, S, μ) ((t * 3 + z) * 4 + i)) a k) (cLen (T, S, μ0) t a) j z μ).1 → ∀ z', z' < 3 → Below (mIter m n) t a z') := by
  intro j
  induction j with
  | zero =>
    intro z μ m hf hs ht ha hrk hT hh hc hN hA hB hzj
    refine ⟨0, Run.zero m, ⟨hf, Keep.rf m, Or.inl ⟨by show (0 : Int32) ≤ nI 1; decide, Stk.rf m, hc⟩, Lim.rf _ _ _⟩, fun _ z' hz' => hB z' (by omega)⟩
  | succ j ihj =>
    intro z μ m hf hs ht ha hrk hT hh hc hN hA hB hzj
    have elen : cLen (T, S, μ0) t a z = if (mR_along m a >>> (nI z &&& 31)) &&& nI 1 = nI 1 then mR_rowSize m (3 * t + z) else 0 := bit_len (σ := (T, S, μ0)) (m := m) hf.1 (by omega)
    by_cases hbit : (mR_along m a >>> (nI z &&& 31)) &&& nI 1 = nI 1
    · rw [if_pos hbit] at elen
      obtain ⟨n1, r1, ⟨o1, o2, o3, o5⟩, o4⟩ := below_run_i hk ih (show z < 3 by omega) (mR_rowSize m (3 * t + z)) 0 μ m hf hs ht ha hrk hT hh hc hN hA hbit hB (Nat.zero_add _) (fun i' h => absurd h (Nat.not_lt_zero i'))
      rcases o3 with ⟨p1, p2, p3⟩ | ⟨p1, p2, p3⟩
      · have e9 : dBelow (fun μ z i => cDo T S d μ (cT_rows (T, S, μ) ((t * 3 + z) * 4 + i)) a k) (cLen (T, S, μ0) t a) (j + 1) z μ = dBelow (fun μ z i => cDo T S d μ (cT_rows (T, S, μ) ((t * 3 + z) * 4 + i)) a k) (cLen (T, S, μ0) t a) j (z + 1) (dLoop (fun μ i => cDo T S d μ (cT_rows (T, S, μ) ((t * 3 + z) * 4 + i)) a k) (mR_rowSize m (3 * t + z)) 0 μ).2 := by
          rw [dBelow, elen]
          exact if_pos p1
        rw [e9]
        have hsm := o2.1
        generalize hm1 : mIter m n1 = m1 at o1 o2 o4 o5 p2 p3 hsm
        have hnm : mR_needMany m1 a = mR_needMany m a := by rw [hsm.2.2.2.2.2.2.1]
        have hnd : mR_needs m1 = mR_needs m := hsm.2.2.2.2.2.1
        have hpl : ∀ t b, mPl m1 t b = mPl m t b := fun t b => by unfold mPl; rw [o2.2.1]
        have hmu : ∀ i, mU m1 t z i = mU m t z i := fun i => by unfold mU; rw [hsm.2.2.1, hsm.2.2.2.1]
        obtain ⟨n2, q1, ⟨q2, q3, q4, q6⟩, q5⟩ := ihj (z + 1) (dLoop (fun μ i => cDo T S d μ (cT_rows (T, S, μ) ((t * 3 + z) * 4 + i)) a k) (mR_rowSize m (3 * t + z)) 0 μ).2 m1 o1 (o2.2.1.trans hs) (by rw [hsm.1]; exact ht) (by rw [hsm.2.1]; exact ha) hrk (hT.stk p2) (by rw [p2.1]; exact hh) p3 (fun i' hi' => by rw [hnd, hpl]; exact o2.ne (hN i' (by rw [← hnm]; exact hi'))) (by rw [all_keep o2 hN]; exact hA) (fun z' hz' => by
          by_cases e : z' = z
          · subst e
            intro _ i' hi'
            rw [hsm.2.2.2.2.1] at hi'
            rw [hmu, hpl]
            exact o4 p1 i' hi'
          · exact (hB z' (by omega)).keep o2) (by omega)
        refine ⟨n1 + n2, r1.add (by rw [hm1]; exact q1), ?_, ?_⟩
        · rw [mIter_add, hm1]
          refine ⟨q2, o2.tr q3, ?_, o5.tr q6⟩
          rcases q4 with ⟨g1, g2, g3⟩ | g
          · exact Or.inl ⟨g1, p2.tr g2, g3⟩
          · exact Or.inr g
        · rw [mIter_add, hm1]
          exact q5
      · have e9 : dBelow (fun μ z i => cDo T S d μ (cT_rows (T, S, μ) ((t * 3 + z) * 4 + i)) a k) (cLen (T, S, μ0) t a) (j + 1) z μ = dLoop (fun μ i => cDo T S d μ (cT_rows (T, S, μ) ((t * 3 + z) * 4 + i)) a k) (mR_rowSize m (3 * t + z)) 0 μ := by
          rw [dBelow, elen]
          exact if_neg (by rw [p1]; exact not_m2)
        rw [e9]
        exact ⟨n1, r1, ⟨o1, o2, Or.inr ⟨p1, p2, p3⟩, o5⟩, fun h => absurd h (by rw [p1]; exact not_m2)⟩
    · rw [if_neg hbit] at elen
      have e9 : dBelow (fun μ z i => cDo T S d μ (cT_rows (T, S, μ) ((t * 3 + z) * 4 + i)) a k) (cLen (T, S, μ0) t a) (j + 1) z μ = dBelow (fun μ z i => cDo T S d μ (cT_rows (T, S, μ) ((t * 3 + z) * 4 + i)) a k) (cLen (T, S, μ0) t a) j (z + 1) μ := by
        rw [dBelow, elen]
        exact if_pos (show (0 : Int32) ≤ nI 1 by decide)
      rw [e9]
      exact ihj (z + 1) μ m hf hs ht ha hrk hT hh hc hN hA (fun z' hz' => by
        by_cases e : z' = z
        · subst e
          intro h
          exact absurd h hbit
        · exact hB z' (by omega)) (by omega)
theorem fin_heap (m : mS) (x : Nat) : mR_heap (p_mR_heap m x) = x := rfl
theorem fin_hT (m : mS) (x : Nat) : mR_heapTarget (p_mR_heap m x) = mR_heapTarget m := rfl
theorem fin_hA (m : mS) (x : Nat) : mR_heapAspect (p_mR_heap m x) = mR_heapAspect m := rfl
theorem fin_cl (m : mS) (x : Nat) : mR_clashes (p_mR_heap m x) = mR_clashes m := rfl
theorem kn_hT (m : mS) (x : Nat → Nat) : mR_heapTarget (p_mR_known m x) = mR_heapTarget m := rfl
theorem kn_hA (m : mS) (x : Nat → Nat) : mR_heapAspect (p_mR_known m x) = mR_heapAspect m := rfl
theorem kn_cl (m : mS) (x : Nat → Nat) : mR_clashes (p_mR_known m x) = mR_clashes m := rfl
theorem kn_kn (m : mS) (x : Nat → Nat) : mR_known (p_mR_known m x) = x := rfl
theorem ti_hT (m : mS) (x : Nat → Int32) : mR_heapTarget (p_mR_times m x) = mR_heapTarget m := rfl
theorem ti_hA (m : mS) (x : Nat → Int32) : mR_heapAspect (p_mR_times m x) = mR_heapAspect m := rfl
theorem ti_cl (m : mS) (x : Nat → Int32) : mR_clashes (p_mR_times m x) = mR_clashes m := rfl
theorem re_hT (m : mS) (x : Nat → Int64) : mR_heapTarget (p_mR_results m x) = mR_heapTarget m := rfl
theorem re_hA (m : mS) (x : Nat → Int64) : mR_heapAspect (p_mR_results m x) = mR_heapAspect m := rfl
theorem re_cl (m : mS) (x : Nat → Int64) : mR_clashes (p_mR_results m x) = mR_clashes m := rfl
theorem mDone_hT (m : mS) (t a : Nat) : mR_heapTarget (mDone m t a) = mR_heapTarget m := (fin_hT _ _).trans ((ti_hT _ _).trans ((kn_hT _ _).trans (re_hT _ _)))
theorem mDone_hA (m : mS) (t a : Nat) : mR_heapAspect (mDone m t a) = mR_heapAspect m := (fin_hA _ _).trans ((ti_hA _ _).trans ((kn_hA _ _).trans (re_hA _ _)))
theorem mDone_cl (m : mS) (t a : Nat) : mR_clashes (mDone m t a) = mR_clashes m := (fin_cl _ _).trans ((ti_cl _ _).trans ((kn_cl _ _).trans (re_cl _ _)))
theorem mDone_heap (m : mS) (t a : Nat) : mR_heap (mDone m t a) = mR_heap m - 1 := fin_heap _ _
theorem mMakes_more (m : mS) (t a : Nat) : mR_heapTarget (mMakes m t a).2 = mR_heapTarget m ∧ mR_heapAspect (mMakes m t a).2 = mR_heapAspect m ∧ mR_clashes (mMakes m t a).2 = mR_clashes m ∧ mR_touched (mMakes m t a).2 = mR_touched m := by
  unfold mMakes
  split
  · exact ⟨rfl, rfl, rfl, rfl⟩
  · split
    · exact ⟨rfl, rfl, rfl, rfl⟩
    · exact ⟨rfl, rfl, rfl, rfl⟩
/-- the end of a doing: one step of the stack -/
theorem fin_run {rk : Nat → Nat} {T : cTS} {S : cAS} {k : Nat} (hk : k < 16) {t a : Nat} {μ : cMu} {m : mS} (hf : full rk (T, S, μ) m) (hs : mR_setting m = k) (ht : t < mR_targets m) (ha : a < mR_aspects m) (hu : mR_known m ((t * 8 + a) * 16 + k) = 0) (hT : Top m t a) (hh : mR_heap m < 170) (hc : mR_clashes m = 0) (hN : ∀ i', i' < mR_needMany m a → ¬ mR_known m (mPl m t (mR_needs m (3 * a + i'))) = 0) (hA : ¬ mAll m t a = 0) (hB : ∀ z', z' < 3 → Below m t a z') :
    full rk (T, S, (cFin (T, S, μ) t a k).2) (mGo m) ∧ Keep m (mGo m) ∧ (((cFin (T, S, μ) t a k).1 = nI 1 ∧ mR_heap (mGo m) = mR_heap m - 1 ∧ (∀ i, mR_heapTarget (mGo m) i = mR_heapTarget m i ∧ mR_heapAspect (mGo m) i = mR_heapAspect m i) ∧ mR_clashes (mGo m) = 0 ∧ mR_known (mGo m) ((t * 8 + a) * 16 + k) = 2) ∨ ((cFin (T, S, μ) t a k).1 = -2 ∧ mR_heap (mGo m) = 0 ∧ mR_clashes (mGo m) = 1)) ∧ Lim rk (t + rk a + 1) m (mGo m) := by
  have hwn := wn_none (m := m) (t := t) (a := a) (mR_needMany m a) 0 (fun i' _ g => hN i' (by omega))
  have hwt := wt_none (m := m) (t := t) (a := a) 3 0 (fun z' _ g => hB z' (by omega))
  obtain ⟨f1, f2, f3, f4⟩ := mMakes_same m t a
  obtain ⟨f5, f6, f7, f8⟩ := mMakes_more m t a
  have eta := cMake_eta T S μ t a k
  rcases make_eq hf ht ha hk hs hu with ⟨e1, e2, g1, g2, g3⟩ | ⟨e1, e2, g1⟩
  · have hgo : mGo m = mDone (mMakes m t a).2 t a := go_done hT hwn hA hwt (by rw [e2]; decide)
    have efin : cFin (T, S, μ) t a k = (nI 1, (cKeepDone (cMake (T, S, μ) t a k).2 t a k (cJoined (cMake (T, S, μ) t a k).2 t a k)).2.2) := by
      unfold cFin
      rw [if_neg (by rw [e1]; decide)]
    have hfd := full_done g1 g2 g3 (sInv_same f1 hf.2.2.2) (by rw [f1.1]; exact ht) (by rw [f1.2.1]; exact ha) hk (f2.trans hs) (by rw [f3]; exact hu)
    rw [efin, hgo]
    refine ⟨?_, ?_, Or.inl ⟨rfl, ?_, ?_, ?_, ?_⟩, ?_⟩
    · have e9 : (T, S, (cKeepDone (cMake (T, S, μ) t a k).2 t a k (cJoined (cMake (T, S, μ) t a k).2 t a k)).2.2) = cKeepDone (cMake (T, S, μ) t a k).2 t a k (cJoined (cMake (T, S, μ) t a k).2 t a k) := by
        rw [eta]
        rfl
      rw [e9]
      exact hfd
    · obtain ⟨x1, x2, x3, x4, x5⟩ := mDone_fr (mMakes m t a).2 t a
      refine ⟨x1.tr f1, x4.trans f2, x5.trans f8, fun q hq => ?_⟩
      rw [mDone_known, f3]
      have e8 : mPl (mMakes m t a).2 t a = (t * 8 + a) * 16 + k := by unfold mPl; rw [f2, hs]
      rw [e8, upN_n (fun e => hq (by rw [e]; exact hu))]
    · rw [mDone_heap, f4]
    · intro i
      rw [mDone_hT, mDone_hA, f5, f6]
      exact ⟨rfl, rfl⟩
    · rw [mDone_cl, f7]; exact hc
    · rw [mDone_known, f3]
      have e8 : mPl (mMakes m t a).2 t a = (t * 8 + a) * 16 + k := by unfold mPl; rw [f2, hs]
      rw [e8, upN_s]
    · intro t' a' k' ha' hk' hm'
      have ha8 : a < 8 := Nat.lt_of_lt_of_le ha hf.2.2.2.1.2.1
      rw [mDone_known, f3]
      have e8 : mPl (mMakes m t a).2 t a = (t * 8 + a) * 16 + k := by unfold mPl; rw [f2, hs]
      rw [e8, upN_n (fun e => by obtain ⟨y1, y2, y3⟩ := ix_inj ha' hk' ha8 hk e; rw [y1, y2] at hm'; omega)]
  · have hgo : mGo m = p_mR_heap (p_mR_clashes (mMakes m t a).2 1) 0 := go_clash hT hwn hA hwt e2
    have efin : cFin (T, S, μ) t a k = (-2, (cMake (T, S, μ) t a k).2.2.2) := by
      unfold cFin
      rw [if_pos e1]
    rw [efin, hgo]
    have hfr : mFr (p_mR_heap (p_mR_clashes (mMakes m t a).2 1) 0) (mMakes m t a).2 := (mFr_heap _ _).tr (mFr_clashes _ _)
    refine ⟨?_, ⟨hfr.1.tr f1, hfr.2.2.2.1.trans f2, hfr.2.2.2.2.trans f8, fun q _ => ?_⟩, Or.inr ⟨rfl, rfl, rfl⟩, fun t' a' k' _ _ _ => ?_⟩
    · rw [← eta]
      exact full_of g1 hfr rfl rfl rfl
    · show mR_known (mMakes m t a).2 q = _
      rw [f3]
    · show mR_known (mMakes m t a).2 _ = _
      rw [f3]
/-- THE DOING: recursion and stack come to the same -/
theorem do_one {rk : Nat → Nat} {T : cTS} {S : cAS} {k : Nat} (hk : k < 16) : ∀ d, DoOne rk T S k d := by
  intro d
  induction d with
  | zero => intro μ m t a hf hs ht ha hrk; omega
  | succ d ih =>
    intro μ m t a hf hs ht ha hrk hu hh hc
    have ht20 : t < 20 := Nat.lt_of_lt_of_le ht hf.2.2.2.1.1
    have ha8 : a < 8 := Nat.lt_of_lt_of_le ha hf.2.2.2.1.2.1
    have hf0 := full_push hf t a
    have hkp : Keep m (mPush m t a) := Keep.fr (push_fr m t a) rfl
    have hlp : Lim rk (t + rk a + 1) m (mPush m t a) := fun t' a' k' _ _ _ => rfl
    have hkn : cKnown (T, S, μ) t a k = -1 := by rw [cKnown_st (by omega), ← hf.2.1.1 t a k ht20 ha8 hk, hu]; decide
    have enc : cA_needCounts (T, S, μ) a = mR_needMany (mPush m t a) a := by rw [hf0.1.2.2.2.2.2.2.2.2.2.2.2.2.2]
    have hT0 := Top.push m t a
    have hh0 : mR_heap (mPush m t a) + d < 170 := by rw [push_heap]; omega
    have hstk : ∀ i, i < mR_heap m → mR_heapTarget (mPush m t a) i = mR_heapTarget m i ∧ mR_heapAspect (mPush m t a) i = mR_heapAspect m i := fun i hi => by
      rw [push_hT, push_hA, upN_n (by omega), upN_n (by omega)]
      exact ⟨rfl, rfl⟩
    have hu0 : mR_known (mPush m t a) ((t * 8 + a) * 16 + k) = 0 := hu
    have hs0 : mR_setting (mPush m t a) = k := (push_fr m t a).2.2.2.1.trans hs
    have ht0 : t < mR_targets (mPush m t a) := by rw [(push_fr m t a).1.1]; exact ht
    have ha0 : a < mR_aspects (mPush m t a) := by rw [(push_fr m t a).1.2.1]; exact ha
    have hc0 : mR_clashes (mPush m t a) = 0 := hc
    have hp0 : mR_heap (mPush m t a) = mR_heap m + 1 := push_heap m t a
    generalize mPush m t a = m0 at hf0 hkp hlp enc hT0 hh0 hstk hu0 hs0 ht0 ha0 hc0 hp0 ⊢
    obtain ⟨n1, r1, ⟨o1, o2, o3, o5⟩, o4⟩ := needs_run hk ih (mR_needMany m0 a) 0 μ m0 hf0 hs0 ht0 ha0 hrk hT0 hh0 hc0 (Nat.zero_add _) (fun i' h => absurd h (Nat.not_lt_zero i'))
    rw [cDo, if_pos hkn, enc]
    generalize hR1 : dLoop (fun μ i => cDo T S d μ t (cA_needs (T, S, μ) (a * 3 + i)) k) (mR_needMany m0 a) 0 μ = R1 at o1 o3 o4 ⊢
    rcases o3 with ⟨p1, p2, p3⟩ | ⟨p1, p2, p3⟩
    · rw [if_pos p1]
      have hN1 := o4 p1
      have hsm := o2.1
      generalize hm1 : mIter m0 n1 = m1 at o1 o2 o5 p2 p3 hN1 hsm
      have hnm : mR_needMany m1 a = mR_needMany m0 a := by rw [hsm.2.2.2.2.2.2.1]
      have hnd : mR_needs m1 = mR_needs m0 := hsm.2.2.2.2.2.1
      have hpl : ∀ t b, mPl m1 t b = mPl m0 t b := fun t b => by unfold mPl; rw [o2.2.1]
      have hs1 : mR_setting m1 = k := o2.2.1.trans hs0
      have ht1 : t < mR_targets m1 := by rw [hsm.1]; exact ht0
      have ha1 : a < mR_aspects m1 := by rw [hsm.2.1]; exact ha0
      have hT1 := hT0.stk p2
      have hN1' : ∀ i', i' < mR_needMany m1 a → ¬ mR_known m1 (mPl m1 t (mR_needs m1 (3 * a + i'))) = 0 := fun i' hi' => by rw [hnd, hpl]; exact hN1 i' (by rw [← hnm]; exact hi')
      have hu1 : mR_known m1 ((t * 8 + a) * 16 + k) = 0 := (o5 t a k ha8 hk (Nat.le_refl _)).trans hu0
      · have hwn := wn_none (m := m1) (t := t) (a := a) (mR_needMany m1 a) 0 (fun i' _ g => hN1' i' (by omega))
        have hlk := lacks_eq o1.wk ht20 ha8 hk hs1
        have hok1 : mGoOk m1 := ok_of o1 hk hs1 hT1 (by rw [p2.1]; omega) ht20 ha8
        by_cases hA : mAll m1 t a = 0
        · -- passed
          rw [if_neg (fun h => hlk.mp h hA)]
          have hgo := go_pass hT1 hwn hA
          have e8 : mPl m1 t a = (t * 8 + a) * 16 + k := by unfold mPl; rw [hs1]
          rw [e8] at hgo
          have hrun : Run m0 (n1 + 1) := r1.add (by rw [hm1]; exact Run.one hok1)
          have hit : mIter m0 (n1 + 1) = mGo m1 := by rw [mIter_add, hm1, mIter_1]
          refine ⟨n1 + 1, hrun, ?_, ?_⟩
          · rw [hit, hgo]
            refine ⟨full_pass o1 ht1 ha1 hk hu1 _, hkp.tr (o2.tr ?_), Or.inl ⟨by show (0 : Int32) ≤ nI 0; decide, ⟨?_, fun i hi => ?_⟩, ?_⟩, hlp.tr ((o5.up (by omega)).tr ?_)⟩
            · refine ⟨((mFr_heap _ _).tr (mFr_known _ _)).1, ((mFr_heap _ _).tr (mFr_known _ _)).2.2.2.1, ((mFr_heap _ _).tr (mFr_known _ _)).2.2.2.2, fun q hq => ?_⟩
              rw [zh_known, kn_kn, upN_n (fun e => hq (by rw [e]; exact hu1))]
            · rw [fin_heap, p2.1, hp0]; omega
            · rw [fin_hT, fin_hA, kn_hT, kn_hA, (p2.2 i (by omega)).1, (p2.2 i (by omega)).2]
              exact hstk i hi
            · rw [fin_cl, kn_cl]; exact p3
            · intro t' a' k' ha' hk' hm'
              rw [zh_known, kn_kn, upN_n (fun e => by obtain ⟨y1, y2, y3⟩ := ix_inj ha' hk' ha8 hk e; rw [y1, y2] at hm'; omega)]
          · rw [hit, hgo, zh_known, kn_kn, upN_s]
            intro _
            exact ⟨by decide, by show nI 0 = nI 1 - nI 1; decide⟩
        · -- on with what lies below
          rw [if_pos (hlk.mpr hA)]
          obtain ⟨n2, r2, ⟨q1, q2, q3, q5⟩, q4⟩ := below_run hk ih μ 3 0 R1.2 m1 o1 hs1 ht1 ha1 hrk hT1 (by rw [p2.1]; exact hh0) p3 hN1' hA (fun z' h => absurd h (Nat.not_lt_zero z')) rfl
          generalize hR2 : dBelow (fun μ z i => cDo T S d μ (cT_rows (T, S, μ) ((t * 3 + z) * 4 + i)) a k) (cLen (T, S, μ) t a) 3 0 R1.2 = R2 at q1 q3 q4 ⊢
          rcases q3 with ⟨b1, b2, b3⟩ | ⟨b1, b2, b3⟩
          · rw [if_pos b1]
            have hB2 := q4 b1
            have hsm2 := q2.1
            have hrun2 : Run m0 (n1 + n2) := r1.add (by rw [hm1]; exact r2)
            have hit2 : mIter m0 (n1 + n2) = mIter m1 n2 := by rw [mIter_add, hm1]
            generalize hm2 : mIter m1 n2 = m2 at q1 q2 q5 b2 b3 hB2 hsm2 hit2
            have hs2 : mR_setting m2 = k := q2.2.1.trans hs1
            have ht2 : t < mR_targets m2 := by rw [hsm2.1]; exact ht1
            have ha2 : a < mR_aspects m2 := by rw [hsm2.2.1]; exact ha1
            have hT2 := hT1.stk b2
            have hN2 : ∀ i', i' < mR_needMany m2 a → ¬ mR_known m2 (mPl m2 t (mR_needs m2 (3 * a + i'))) = 0 := fun i' hi' => by
              have e7 : mPl m2 t (mR_needs m2 (3 * a + i')) = mPl m1 t (mR_needs m1 (3 * a + i')) := by unfold mPl; rw [q2.2.1, hsm2.2.2.2.2.2.1]
              rw [e7]
              exact q2.ne (hN1' i' (by rw [← hsm2.2.2.2.2.2.2.1]; exact hi'))
            have hA2 : ¬ mAll m2 t a = 0 := by rw [all_keep q2 hN1']; exact hA
            have hu2 : mR_known m2 ((t * 8 + a) * 16 + k) = 0 := (q5 t a k ha8 hk (Nat.le_refl _)).trans hu1
            · obtain ⟨w1, w2, w3, w4⟩ := fin_run (rk := rk) hk q1 hs2 ht2 ha2 hu2 hT2 (by rw [b2.1, p2.1]; omega) b3 hN2 hA2 hB2
              have hok2 : mGoOk m2 := ok_of q1 hk hs2 hT2 (by rw [b2.1, p2.1]; omega) ht20 ha8
              have hrun3 : Run m0 (n1 + n2 + 1) := hrun2.add (by rw [hit2]; exact Run.one hok2)
              have hit3 : mIter m0 (n1 + n2 + 1) = mGo m2 := by rw [mIter_add, hit2, mIter_1]
              refine ⟨n1 + n2 + 1, hrun3, ?_, ?_⟩
              · rw [hit3]
                refine ⟨w1, hkp.tr (o2.tr (q2.tr w2)), ?_, hlp.tr ((o5.up (by omega)).tr ((q5.up (by omega)).tr w4))⟩
                rcases w3 with ⟨x1, x2, x3, x4, x5⟩ | ⟨x1, x2, x3⟩
                · refine Or.inl ⟨by rw [x1]; decide, ⟨?_, fun i hi => ?_⟩, x4⟩
                  · rw [x2, b2.1, p2.1, hp0]; omega
                  · have y1 := x3 i
                    have y2 := b2.2 i (by rw [p2.1, hp0]; omega)
                    have y3 := p2.2 i (by rw [hp0]; omega)
                    have y4 := hstk i hi
                    exact ⟨y1.1.trans (y2.1.trans (y3.1.trans y4.1)), y1.2.trans (y2.2.trans (y3.2.trans y4.2))⟩
                · exact Or.inr ⟨x1, x2, x3⟩
              · rw [hit3]
                intro h0
                rcases w3 with ⟨x1, x2, x3, x4, x5⟩ | ⟨x1, x2, x3⟩
                · rw [x5, x1]
                  exact ⟨by decide, by decide⟩
                · rw [x1] at h0
                  exact absurd h0 not_m2
          · rw [if_neg (by rw [b1]; exact not_m2)]
            refine ⟨n1 + n2, r1.add (by rw [hm1]; exact r2), ?_, fun h => absurd h (by rw [b1]; exact not_m2)⟩
            rw [mIter_add, hm1]
            exact ⟨q1, hkp.tr (o2.tr q2), Or.inr ⟨b1, b2, b3⟩, hlp.tr ((o5.up (by omega)).tr (q5.up (by omega)))⟩
    · rw [if_neg (by rw [p1]; exact not_m2)]
      refine ⟨n1, r1, ⟨o1, hkp.tr o2, Or.inr ⟨p1, p2, p3⟩, hlp.tr (o5.up (by omega))⟩, fun h => absurd h (by rw [p1]; exact not_m2)⟩
