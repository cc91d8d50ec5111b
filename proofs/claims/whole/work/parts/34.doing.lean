/-! the class's doing and the reference's stack come to the same -/
/-- nothing of measure B or more becomes known -/
def Lim (rk : Nat → Nat) (B : Nat) (m m2 : mS) : Prop := ∀ t a k, a < 8 → k < 16 → B ≤ t + rk a → mR_known m2 ((t * 8 + a) * 16 + k) = mR_known m ((t * 8 + a) * 16 + k)
theorem Lim.rf (rk : Nat → Nat) (B : Nat) (m : mS) : Lim rk B m m := fun _ _ _ _ _ _ => rfl
theorem Lim.tr {rk : Nat → Nat} {B : Nat} {a b c : mS} (h1 : Lim rk B a b) (h2 : Lim rk B b c) : Lim rk B a c := fun t x k hx hk hB => (h2 t x k hx hk hB).trans (h1 t x k hx hk hB)
theorem Lim.up {rk : Nat → Nat} {B B' : Nat} {a b : mS} (h : Lim rk B a b) (hB : B ≤ B') : Lim rk B' a b := fun t x k hx hk h' => h t x k hx hk (Nat.le_trans hB h')
def Oc (rk : Nat → Nat) (B : Nat) (σ2 : cS) (m m2 : mS) (r : Int32) : Prop := full rk σ2 m2 ∧ Keep m m2 ∧ ((0 ≤ r ∧ Stk m m2 ∧ mR_clashes m2 = 0) ∨ (r = -2 ∧ mR_heap m2 = 0 ∧ mR_clashes m2 = 1)) ∧ Lim rk B m m2
theorem not_m2 : ¬ (0 : Int32) ≤ -2 := by decide
def DoOne (rk : Nat → Nat) (T : cTS) (S : cAS) (k d : Nat) : Prop := ∀ (μ : cMu) (m : mS) (t a : Nat), full rk (T, S, μ) m → mR_setting m = k → t < mR_targets m → a < mR_aspects m → t + rk a < d → mR_known m ((t * 8 + a) * 16 + k) = 0 → mR_heap m + d < 170 → mR_clashes m = 0 → ∃ n, Run (mPush m t a) n ∧ Oc rk (t + rk a + 1) (T, S, (cDo T S d μ t a k).2) m (mIter (mPush m t a) n) (cDo T S d μ t a k).1 ∧ (0 ≤ (cDo T S d μ t a k).1 → ¬ mR_known (mIter (mPush m t a) n) ((t * 8 + a) * 16 + k) = 0 ∧ (cDo T S d μ t a k).1 = nI (mR_known (mIter (mPush m t a) n) ((t * 8 + a) * 16 + k)) - nI 1)
/-- what is known is answered at once -/
theorem do_known {rk : Nat → Nat} {T : cTS} {S : cAS} {k d : Nat} {μ : cMu} {m : mS} {t a : Nat} (hk : k < 16) (hf : full rk (T, S, μ) m) (ht : t < 20) (ha : a < 8) (hd : 0 < d) (h : ¬ mR_known m ((t * 8 + a) * 16 + k) = 0) : cDo T S d μ t a k = (nI (mR_known m ((t * 8 + a) * 16 + k)) - nI 1, μ) ∧ 0 ≤ nI (mR_known m ((t * 8 + a) * 16 + k)) - nI 1 := by
  obtain ⟨d', rfl⟩ : ∃ d', d = d' + 1 := ⟨d - 1, by omega⟩
  have h1 : cKnown (T, S, μ) t a k = nI (mR_known m ((t * 8 + a) * 16 + k)) - nI 1 := by rw [cKnown_st (by omega), hf.2.1.1 t a k ht ha hk]
  have h2 := hf.2.2.1.2.2.1 ((t * 8 + a) * 16 + k)
  refine ⟨?_, known_ge h2 h⟩
  rw [cDo, if_neg (by rw [h1, known_m1 h2]; exact h), h1]
theorem needs_run {rk : Nat → Nat} {T : cTS} {S : cAS} {k d : Nat} (hk : k < 16) (ih : DoOne rk T S k d) {t a : Nat} : ∀ (j i : Nat) (μ : cMu) (m : mS), full rk (T, S, μ) m → mR_setting m = k → t < mR_targets m → a < mR_aspects m → t + rk a < d + 1 → Top m t a → mR_heap m + d < 170 → mR_clashes m = 0 → i + j = mR_needMany m a → (∀ i', i' < i → ¬ mR_known m (mPl m t (mR_needs m (3 * a + i'))) = 0) →
    ∃ n, Run m n ∧ Oc rk (t + rk a) (T, S, (dLoop (fun μ i => cDo T S d μ t (cA_needs (T, S, μ) (a * 3 + i)) k) j i μ).2) m (mIter m n) (dLoop (fun μ i => cDo T S d μ t (cA_needs (T, S, μ) (a * 3 + i)) k) j i μ).1 ∧ (0 ≤ (dLoop (fun μ i => cDo T S d μ t (cA_needs (T, S, μ) (a * 3 + i)) k) j i μ).1 → ∀ i', i' < mR_needMany m a → ¬ mR_known (mIter m n) (mPl m t (mR_needs m (3 * a + i'))) = 0) := by
  intro j
  induction j with
  | zero =>
    intro i μ m hf hs ht ha hrk hT hh hc hij hN
    refine ⟨0, Run.zero m, ⟨hf, Keep.rf m, Or.inl ⟨by show (0 : Int32) ≤ nI 1; decide, Stk.rf m, hc⟩, Lim.rf _ _ _⟩, fun _ i' hi' => hN i' (by omega)⟩
  | succ j ihj =>
    intro i μ m hf hs ht ha hrk hT hh hc hij hN
    have ht20 : t < 20 := Nat.lt_of_lt_of_le ht hf.2.2.2.1.1
    have ha8 : a < 8 := Nat.lt_of_lt_of_le ha hf.2.2.2.1.2.1
    obtain ⟨hb1, hb2⟩ := hf.2.2.2.2.2 a i ha (by omega)
    have hb8 : mR_needs m (3 * a + i) < 8 := Nat.lt_of_lt_of_le hb1 hf.2.2.2.1.2.1
    have eb : cA_needs (T, S, μ) (a * 3 + i) = mR_needs m (3 * a + i) := by rw [hf.1.2.2.2.2.2.2.2.2.2.2.2.2.1, show a * 3 + i = 3 * a + i by omega]
    have epl : ∀ b, mPl m t b = (t * 8 + b) * 16 + k := fun b => by unfold mPl; rw [hs]
    by_cases h0 : mR_known m ((t * 8 + mR_needs m (3 * a + i)) * 16 + k) = 0
    · -- it is pushed and done
      have hgo : mGo m = mPush m t (mR_needs m (3 * a + i)) := go_need hT (wn_first (by rw [epl]; exact h0) _ 0 (Nat.zero_le _) (by omega) (fun i' _ g => hN i' g))
      obtain ⟨n1, r1, ⟨o1, o2, o3, o5⟩, o4⟩ := ih μ m t (mR_needs m (3 * a + i)) hf hs ht hb1 (by omega) h0 hh hc
      have hrun : Run m (1 + n1) := (Run.one (ok_of hf hk hs hT (by omega) ht20 ha8)).add (by rw [mIter_1, hgo]; exact r1)
      have hit : mIter m (1 + n1) = mIter (mPush m t (mR_needs m (3 * a + i))) n1 := by rw [mIter_add, mIter_1, hgo]
      rw [← hit] at o1 o2 o3 o4 o5
      rcases o3 with ⟨p1, p2, p3⟩ | ⟨p1, p2, p3⟩
      · -- on with the next
        have e9 : dLoop (fun μ i => cDo T S d μ t (cA_needs (T, S, μ) (a * 3 + i)) k) (j + 1) i μ = dLoop (fun μ i => cDo T S d μ t (cA_needs (T, S, μ) (a * 3 + i)) k) j (i + 1) (cDo T S d μ t (mR_needs m (3 * a + i)) k).2 := by
          rw [dLoop, eb]
          exact if_pos p1
        rw [e9]
        have hsm := o2.1
        generalize hm1 : mIter m (1 + n1) = m1 at o1 o2 o4 o5 p2 p3 hsm
        have hnm : mR_needMany m1 a = mR_needMany m a := by rw [hsm.2.2.2.2.2.2.1]
        have hnd : mR_needs m1 = mR_needs m := hsm.2.2.2.2.2.1
        have hpl : ∀ b, mPl m1 t b = mPl m t b := fun b => by unfold mPl; rw [o2.2.1]
        obtain ⟨n2, q1, ⟨q2, q3, q4, q6⟩, q5⟩ := ihj (i + 1) (cDo T S d μ t (mR_needs m (3 * a + i)) k).2 m1 o1 (o2.2.1.trans hs) (by rw [hsm.1]; exact ht) (by rw [hsm.2.1]; exact ha) hrk (hT.stk p2) (by rw [p2.1]; exact hh) p3 (by rw [hnm]; omega) (fun i' hi' => by
          rw [hnd, hpl]
          by_cases e : i' = i
          · subst e
            rw [epl]
            exact (o4 p1).1
          · exact o2.ne (hN i' (by omega)))
        refine ⟨(1 + n1) + n2, hrun.add (by rw [hm1]; exact q1), ?_, ?_⟩
        · rw [mIter_add, hm1]
          refine ⟨q2, o2.tr q3, ?_, (o5.up (by omega)).tr q6⟩
          rcases q4 with ⟨g1, g2, g3⟩ | g
          · exact Or.inl ⟨g1, p2.tr g2, g3⟩
          · exact Or.inr g
        · rw [mIter_add, hm1]
          intro h i' hi'
          have h5 := q5 h i' (by rw [hnm]; exact hi')
          rw [hnd, hpl] at h5
          exact h5
      · -- a clash ends all
        have e9 : dLoop (fun μ i => cDo T S d μ t (cA_needs (T, S, μ) (a * 3 + i)) k) (j + 1) i μ = cDo T S d μ t (mR_needs m (3 * a + i)) k := by
          rw [dLoop, eb]
          exact if_neg (by rw [p1]; exact not_m2)
        rw [e9]
        exact ⟨1 + n1, hrun, ⟨o1, o2, Or.inr ⟨p1, p2, p3⟩, o5.up (by omega)⟩, fun h => absurd h (by rw [p1]; exact not_m2)⟩
    · -- it is known already
      obtain ⟨g1, g2⟩ := do_known hk hf ht20 hb8 (show 0 < d by omega) h0
      have e9 : dLoop (fun μ i => cDo T S d μ t (cA_needs (T, S, μ) (a * 3 + i)) k) (j + 1) i μ = dLoop (fun μ i => cDo T S d μ t (cA_needs (T, S, μ) (a * 3 + i)) k) j (i + 1) μ := by
        rw [dLoop, eb, g1]
        exact if_pos g2
      rw [e9]
      exact ihj (i + 1) μ m hf hs ht ha hrk hT hh hc (by omega) (fun i' hi' => by
        by_cases e : i' = i
        · subst e; rw [epl]; exact h0
        · exact hN i' (by omega))
/-- the inner loop of what lies below -/
theorem below_run_i {rk : Nat → Nat} {T : cTS} {S : cAS} {k d : Nat} (hk : k < 16) (ih : DoOne rk T S k d) {t a z : Nat} (hz : z < 3) : ∀ (j i : Nat) (μ : cMu) (m : mS), full rk (T, S, μ) m → mR_setting m = k → t < mR_targets m → a < mR_aspects m → t + rk a < d + 1 → Top m t a → mR_heap m + d < 170 → mR_clashes m = 0 → (∀ i', i' < mR_needMany m a → ¬ mR_known m (mPl m t (mR_needs m (3 * a + i'))) = 0) → ¬ mAll m t a = 0 → (mR_along m a >>> (nI z &&& 31)) &&& nI 1 = nI 1 → (∀ z', z' < z → Below m t a z') → i + j = mR_rowSize m (3 * t + z) → (∀ i', i' < i → ¬ mR_known m (mPl m (mU m t z i') a) = 0) →
    ∃ n, Run m n ∧ Oc rk (t + rk a) (T, S, (dLoop (fun μ i => cDo T S d μ (cT_rows (T, S, μ) ((t * 3 + z) * 4 + i)) a k) j i μ).2) m (mIter m n) (dLoop (fun μ i => cDo T S d μ (cT_rows (T, S, μ) ((t * 3 + z) * 4 + i)) a k) j i μ).1 ∧ (0 ≤ (dLoop (fun μ i => cDo T S d μ (cT_rows (T, S, μ) ((t * 3 + z) * 4 + i)) a k) j i μ).1 → ∀ i', i' < mR_rowSize m (3 * t + z) → ¬ mR_known (mIter m n) (mPl m (mU m t z i') a) = 0) := by
  intro j
  induction j with
  | zero =>
    intro i μ m hf hs ht ha hrk hT hh hc hN hA hbit hB hij hI
    refine ⟨0, Run.zero m, ⟨hf, Keep.rf m, Or.inl ⟨by show (0 : Int32) ≤ nI 1; decide, Stk.rf m, hc⟩, Lim.rf _ _ _⟩, fun _ i' hi' => hI i' (by omega)⟩
  | succ j ihj =>
    intro i μ m hf hs ht ha hrk hT hh hc hN hA hbit hB hij hI
    have ht20 : t < 20 := Nat.lt_of_lt_of_le ht hf.2.2.2.1.1
    have ha8 : a < 8 := Nat.lt_of_lt_of_le ha hf.2.2.2.1.2.1
    have hu := hf.2.2.2.2.1 t z i ht hz (by omega)
    have eb : cT_rows (T, S, μ) ((t * 3 + z) * 4 + i) = mU m t z i := hf.1.2.2.2.2.2.1 t z i ht20 hz (by omega)
    have epl : ∀ u, mPl m u a = (u * 8 + a) * 16 + k := fun u => by unfold mPl; rw [hs]
    by_cases h0 : mR_known m ((mU m t z i * 8 + a) * 16 + k) = 0
    · have hgo : mGo m = mPush m (mU m t z i) a := go_tgt hT (wn_none _ 0 (fun i' _ g => hN i' (by omega))) hA (wt_first hbit (by omega) (by rw [epl]; exact h0) hI 3 0 (Nat.zero_le _) (by omega) (fun z' _ g => hB z' g))
      obtain ⟨n1, r1, ⟨o1, o2, o3, o5⟩, o4⟩ := ih μ m (mU m t z i) a hf hs (by omega) ha (by omega) h0 hh hc
      have hrun : Run m (1 + n1) := (Run.one (ok_of hf hk hs hT (by omega) ht20 ha8)).add (by rw [mIter_1, hgo]; exact r1)
      have hit : mIter m (1 + n1) = mIter (mPush m (mU m t z i) a) n1 := by rw [mIter_add, mIter_1, hgo]
      rw [← hit] at o1 o2 o3 o4 o5
      rcases o3 with ⟨p1, p2, p3⟩ | ⟨p1, p2, p3⟩
      · have e9 : dLoop (fun μ i => cDo T S d μ (cT_rows (T, S, μ) ((t * 3 + z) * 4 + i)) a k) (j + 1) i μ = dLoop (fun μ i => cDo T S d μ (cT_rows (T, S, μ) ((t * 3 + z) * 4 + i)) a k) j (i + 1) (cDo T S d μ (mU m t z i) a k).2 := by
          rw [dLoop, eb]
          exact if_pos p1
        rw [e9]
        have hsm := o2.1
        generalize hm1 : mIter m (1 + n1) = m1 at o1 o2 o4 o5 p2 p3 hsm
        have hnm : mR_needMany m1 a = mR_needMany m a := by rw [hsm.2.2.2.2.2.2.1]
        have hnd : mR_needs m1 = mR_needs m := hsm.2.2.2.2.2.1
        have hrs : mR_rowSize m1 = mR_rowSize m := hsm.2.2.2.2.1
        have hal : mR_along m1 = mR_along m := hsm.2.2.2.2.2.2.2.2.2.2.2.1
        have hpl : ∀ t b, mPl m1 t b = mPl m t b := fun t b => by unfold mPl; rw [o2.2.1]
        have hmu : ∀ i, mU m1 t z i = mU m t z i := fun i => by unfold mU; rw [hsm.2.2.1, hsm.2.2.2.1]
        obtain ⟨n2, q1, ⟨q2, q3, q4, q6⟩, q5⟩ := ihj (i + 1) (cDo T S d μ (mU m t z i) a k).2 m1 o1 (o2.2.1.trans hs) (by rw [hsm.1]; exact ht) (by rw [hsm.2.1]; exact ha) hrk (hT.stk p2) (by rw [p2.1]; exact hh) p3 (fun i' hi' => by rw [hnd, hpl]; exact o2.ne (hN i' (by rw [← hnm]; exact hi'))) (by rw [all_keep o2 hN]; exact hA) (by rw [hal]; exact hbit) (fun z' hz' => (hB z' hz').keep o2) (by rw [hrs]; omega) (fun i' hi' => by
          rw [hmu, hpl]
          by_cases e : i' = i
          · subst e
            rw [epl]
            exact (o4 p1).1
          · exact o2.ne (hI i' (by omega)))
        refine ⟨(1 + n1) + n2, hrun.add (by rw [hm1]; exact q1), ?_, ?_⟩
        · rw [mIter_add, hm1]
          refine ⟨q2, o2.tr q3, ?_, (o5.up (by omega)).tr q6⟩
          rcases q4 with ⟨g1, g2, g3⟩ | g
          · exact Or.inl ⟨g1, p2.tr g2, g3⟩
          · exact Or.inr g
        · rw [mIter_add, hm1]
          intro h i' hi'
          have h5 := q5 h i' (by rw [hrs]; exact hi')
          rw [hmu, hpl] at h5
          exact h5
      · have e9 : dLoop (fun μ i => cDo T S d μ (cT_rows (T, S, μ) ((t * 3 + z) * 4 + i)) a k) (j + 1) i μ = cDo T S d μ (mU m t z i) a k := by
          rw [dLoop, eb]
          exact if_neg (by rw [p1]; exact not_m2)
        rw [e9]
        exact ⟨1 + n1, hrun, ⟨o1, o2, Or.inr ⟨p1, p2, p3⟩, o5.up (by omega)⟩, fun h => absurd h (by rw [p1]; exact not_m2)⟩
    · obtain ⟨g1, g2⟩ := do_known hk hf (show mU m t z i < 20 by omega) ha8 (show 0 < d by omega) h0
      have e9 : dLoop (fun μ i => cDo T S d μ (cT_rows (T, S, μ) ((t * 3 + z) * 4 + i)) a k) (j + 1) i μ = dLoop (fun μ i => cDo T S d μ (cT_rows (T, S, μ) ((t * 3 + z) * 4 + i)) a k) j (i + 1) μ := by
        rw [dLoop, eb, g1]
        exact if_pos g2
      rw [e9]
      exact ihj (i + 1) μ m hf hs ht ha hrk hT hh hc hN hA hbit hB (by omega) (fun i' hi' => by
        by_cases e : i' = i
        · subst e; rw [epl]; exact h0
        · exact hI i' (by omega))
