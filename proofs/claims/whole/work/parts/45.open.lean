/-! target, alias, aspect -/
theorem rel_target {σ : cS} {m : mS} (h : Rel σ m) (hn : mR_targets m < 20) (v : Int64) (g : Int32) : Rel (cOpenT σ v g) (mOpen m v g) := by
  obtain ⟨r1, r2, r3, r4, r5, r6, r7, r8, r9⟩ := id h
  obtain ⟨s1, s2, s3, s4, s5, s6, s7, s8, s9, s10, s11, s12, s13, s14⟩ := r1
  obtain ⟨e1, e2, e3, e4, e5⟩ := r8
  have hst : mR_standsFor (mOpen m v g) = upN (mR_standsFor m) (mR_targets m) (mR_targets m) := mOpen_standsFor m v g
  have hsl : ∀ q, q < mR_targets m → mR_standsFor (mOpen m v g) q = mR_standsFor m q := fun q hq => by rw [hst, upN_n (by omega)]
  have hmu : ∀ u z i, u < mR_targets m → z < 3 → i < mR_rowSize m (3 * u + z) → mU (mOpen m v g) u z i = mU m u z i := fun u z i hu hz hi => by
    show mR_standsFor (mOpen m v g) (mR_row (mOpen m v g) _) = _
    rw [mOpen_row, hsl _ (by have := e3 u z i hu hz hi; omega)]
  have hlt : ∀ t z i, z < 3 → i < mR_rowSize m (3 * t + z) → t < mR_targets m := fun t z i hz hi => by
    rcases Nat.lt_or_ge t (mR_targets m) with q | q
    · exact q
    · rw [e4 t z q hz] at hi; omega
  refine ⟨⟨?_, ?_, ?_, ?_, ?_, ?_, ?_, ?_, ?_, ?_, ?_, ?_, ?_, ?_⟩, ?_, ⟨?_, ?_, ?_, ?_, ?_, r3.2.2.2.2.2⟩, ⟨?_, ?_, ?_, ?_, ?_, ?_, ?_, ?_, ?_⟩, ⟨?_, r5.2.1, ?_, r5.2.2.2.1, r5.2.2.2.2⟩, ?_, ?_, ⟨?_, ?_, ?_, ?_, ?_⟩, ?_⟩
  · show cT_opened σ + 1 = _; rw [mOpen_targets, s1]
  · show upN (cT_ends σ) (cT_opened σ) (cT_opened σ) = _; rw [hst, s2, s1]
  · show vp_updL (cT_values σ) (cT_opened σ) v = _; rw [mOpen_value, s3, s1]
  · show upd (cT_providers σ) (cT_opened σ) g = _; rw [mOpen_providers, s4, s1]
  · show cT_rowLengths σ = _; rw [mOpen_rowSize, s5]
  · intro t z i ht hz hi
    rw [mOpen_rowSize] at hi
    show cT_rows σ _ = _
    rw [hmu t z i (hlt t z i hz hi) hz hi]
    exact s6 t z i ht hz hi
  · show cA_opened σ = _; rw [mOpen_aspects, s7]
  · show cA_kinds σ = _; rw [mOpen_kind, s8]
  · show cA_alongs σ = _; rw [mOpen_along, s9]
  · show cA_wants σ = _; rw [mOpen_wants, s10]
  · show cA_gives σ = _; rw [mOpen_gives, s11]
  · show cA_names σ = _; rw [mOpen_nameOf, s12]
  · show cA_needs σ = _; rw [mOpen_needs, s13]
  · show cA_needCounts σ = _; rw [mOpen_needMany, s14]
  · exact dRel_of (σ := σ) r2 (mOpen_known m v g) (mOpen_results m v g) (mOpen_times m v g) (mOpen_clashTold m v g) (mOpen_madeBy m v g)
  · intro t a k ht ha hk hne
    rw [mOpen_known] at hne
    rw [mOpen_targets, mOpen_aspects]
    have := r3.1 t a k ht ha hk hne
    omega
  · rw [mOpen_madeBy, mOpen_nameOf, mOpen_known]; exact r3.2.1
  · rw [mOpen_known]; exact r3.2.2.1
  · intro q; rw [mOpen_madeBy]; exact r3.2.2.2.1 q
  · rw [mOpen_known]; exact r3.2.2.2.2.1
  · rw [mOpen_targets]; omega
  · rw [mOpen_aspects]; exact r4.2.1
  · intro q
    rw [hst]
    by_cases e : q = mR_targets m
    · rw [e, upN_s]; exact hn
    · rw [upN_n e]; exact r4.2.2.1 q
  · rw [mOpen_row]; exact r4.2.2.2.1
  · rw [mOpen_rowSize]; exact r4.2.2.2.2.1
  · rw [mOpen_needs]; exact r4.2.2.2.2.2.1
  · rw [mOpen_needMany]; exact r4.2.2.2.2.2.2.1
  · rw [mOpen_kind]; exact r4.2.2.2.2.2.2.2.1
  · rw [mOpen_nameOf]; exact r4.2.2.2.2.2.2.2.2
  · show cT_opened σ + 1 ≤ 20; omega
  · intro q
    show upN (cT_ends σ) (cT_opened σ) (cT_opened σ) q < 20
    by_cases e : q = cT_opened σ
    · rw [e, upN_s]; omega
    · rw [upN_n e]; exact r5.2.2.1 q
  · intro u hu j hj
    rw [mOpen_targets] at hu
    show bt (upd (cT_reached σ) (cT_opened σ) (nI 1 <<< (nI (cT_opened σ) &&& 31)) u) j = true ↔ mR_standsFor (mOpen m v g) u = u ∧ (j = u ∨ ∃ z i, z < 3 ∧ i < mR_rowSize (mOpen m v g) (3 * u + z) ∧ bt (upd (cT_reached σ) (cT_opened σ) (nI 1 <<< (nI (cT_opened σ) &&& 31)) (mU (mOpen m v g) u z i)) j = true)
    rw [mOpen_rowSize, s1]
    by_cases e : u = mR_targets m
    · rw [e, upd_s, bt_one (by omega) (by omega), hst, upN_s]
      constructor
      · intro q; exact ⟨rfl, Or.inl (by simpa using q)⟩
      · intro ⟨_, q⟩
        rcases q with q | ⟨z, i, hz, hi, _⟩
        · simpa using q
        · rw [e4 _ z (Nat.le_refl _) hz] at hi; omega
    · have hu' : u < mR_targets m := by omega
      rw [upd_n e, hsl u hu', r6 u hu' j hj]
      constructor
      · intro ⟨q1, q2⟩
        refine ⟨q1, ?_⟩
        rcases q2 with q2 | ⟨z, i, hz, hi, q2⟩
        · exact Or.inl q2
        · exact Or.inr ⟨z, i, hz, hi, by rw [hmu u z i hu' hz hi, upd_n (by have := h.low u z i hu' hz hi; omega)]; exact q2⟩
      · intro ⟨q1, q2⟩
        refine ⟨q1, ?_⟩
        rcases q2 with q2 | ⟨z, i, hz, hi, q2⟩
        · exact Or.inl q2
        · rw [hmu u z i hu' hz hi, upd_n (by have := h.low u z i hu' hz hi; omega)] at q2
          exact Or.inr ⟨z, i, hz, hi, q2⟩
  · show reachA (cA_reached σ) (mOpen m v g)
    unfold reachA
    rw [mOpen_aspects, mOpen_needs, mOpen_needMany]
    exact r7
  · rw [mOpen_touched]; exact e1
  · intro q hq
    rw [mOpen_targets] at hq
    by_cases e : q = mR_targets m
    · rw [hst, e, upN_s]; exact ⟨Nat.le_refl _, upN_s _ _ _⟩
    · have hq' : q < mR_targets m := by omega
      have h2 := e2 q hq'
      rw [hsl q hq', hsl _ (by omega)]
      exact h2
  · intro t z i ht hz hi
    rw [mOpen_rowSize] at hi
    rw [mOpen_row]
    exact e3 t z i (hlt t z i hz hi) hz hi
  · intro t z ht hz
    rw [mOpen_targets] at ht
    rw [mOpen_rowSize]
    exact e4 t z (by omega) hz
  · rw [mOpen_aspects, mOpen_needMany]; exact e5
  · intro q hq j
    have hq : cT_opened σ + 1 ≤ q := hq
    show bt (upd (cT_reached σ) (cT_opened σ) _ q) j = false
    rw [upd_n (by omega)]
    exact r9 q (by omega) j
theorem rel_alias {σ : cS} {m : mS} (h : Rel σ m) (hn : mR_targets m < 20) {o : Nat} (ho : o < mR_targets m) : Rel (cOpenAlias σ o) (mOpenAlias m o) := by
  obtain ⟨r1, r2, r3, r4, r5, r6, r7, r8, r9⟩ := id h
  obtain ⟨s1, s2, s3, s4, s5, s6, s7, s8, s9, s10, s11, s12, s13, s14⟩ := r1
  obtain ⟨e1, e2, e3, e4, e5⟩ := r8
  have hst : mR_standsFor (mOpenAlias m o) = upN (mR_standsFor m) (mR_targets m) (mR_standsFor m o) := mOpenAlias_standsFor m o
  have hsl : ∀ q, q < mR_targets m → mR_standsFor (mOpenAlias m o) q = mR_standsFor m q := fun q hq => by rw [hst, upN_n (by omega)]
  have hmu : ∀ u z i, u < mR_targets m → z < 3 → i < mR_rowSize m (3 * u + z) → mU (mOpenAlias m o) u z i = mU m u z i := fun u z i hu hz hi => by
    show mR_standsFor (mOpenAlias m o) (mR_row (mOpenAlias m o) _) = _
    rw [mOpenAlias_row, hsl _ (by have := e3 u z i hu hz hi; omega)]
  have hlt : ∀ t z i, z < 3 → i < mR_rowSize m (3 * t + z) → t < mR_targets m := fun t z i hz hi => by
    rcases Nat.lt_or_ge t (mR_targets m) with q | q
    · exact q
    · rw [e4 t z q hz] at hi; omega
  have ho2 := e2 o ho
  refine ⟨⟨?_, ?_, ?_, ?_, ?_, ?_, ?_, ?_, ?_, ?_, ?_, ?_, ?_, ?_⟩, ?_, ⟨?_, ?_, ?_, ?_, ?_, r3.2.2.2.2.2⟩, ⟨?_, ?_, ?_, ?_, ?_, ?_, ?_, ?_, ?_⟩, ⟨?_, r5.2.1, ?_, r5.2.2.2.1, r5.2.2.2.2⟩, ?_, ?_, ⟨?_, ?_, ?_, ?_, ?_⟩, ?_⟩
  · show cT_opened σ + 1 = _; rw [mOpenAlias_targets, s1]
  · show upN (cT_ends σ) (cT_opened σ) (cT_ends σ o) = _; rw [hst, s2, s1]
  · show cT_values σ = _; rw [mOpenAlias_value, s3]
  · show cT_providers σ = _; rw [mOpenAlias_providers, s4]
  · show cT_rowLengths σ = _; rw [mOpenAlias_rowSize, s5]
  · intro t z i ht hz hi
    rw [mOpenAlias_rowSize] at hi
    show cT_rows σ _ = _
    rw [hmu t z i (hlt t z i hz hi) hz hi]
    exact s6 t z i ht hz hi
  · show cA_opened σ = _; rw [mOpenAlias_aspects, s7]
  · show cA_kinds σ = _; rw [mOpenAlias_kind, s8]
  · show cA_alongs σ = _; rw [mOpenAlias_along, s9]
  · show cA_wants σ = _; rw [mOpenAlias_wants, s10]
  · show cA_gives σ = _; rw [mOpenAlias_gives, s11]
  · show cA_names σ = _; rw [mOpenAlias_nameOf, s12]
  · show cA_needs σ = _; rw [mOpenAlias_needs, s13]
  · show cA_needCounts σ = _; rw [mOpenAlias_needMany, s14]
  · exact dRel_of (σ := σ) r2 (mOpenAlias_known m o) (mOpenAlias_results m o) (mOpenAlias_times m o) (mOpenAlias_clashTold m o) (mOpenAlias_madeBy m o)
  · intro t a k ht ha hk hne
    rw [mOpenAlias_known] at hne
    rw [mOpenAlias_targets, mOpenAlias_aspects]
    have := r3.1 t a k ht ha hk hne
    omega
  · rw [mOpenAlias_madeBy, mOpenAlias_nameOf, mOpenAlias_known]; exact r3.2.1
  · rw [mOpenAlias_known]; exact r3.2.2.1
  · intro q; rw [mOpenAlias_madeBy]; exact r3.2.2.2.1 q
  · rw [mOpenAlias_known]; exact r3.2.2.2.2.1
  · rw [mOpenAlias_targets]; omega
  · rw [mOpenAlias_aspects]; exact r4.2.1
  · intro q
    rw [hst]
    by_cases e : q = mR_targets m
    · rw [e, upN_s]; exact r4.2.2.1 o
    · rw [upN_n e]; exact r4.2.2.1 q
  · rw [mOpenAlias_row]; exact r4.2.2.2.1
  · rw [mOpenAlias_rowSize]; exact r4.2.2.2.2.1
  · rw [mOpenAlias_needs]; exact r4.2.2.2.2.2.1
  · rw [mOpenAlias_needMany]; exact r4.2.2.2.2.2.2.1
  · rw [mOpenAlias_kind]; exact r4.2.2.2.2.2.2.2.1
  · rw [mOpenAlias_nameOf]; exact r4.2.2.2.2.2.2.2.2
  · show cT_opened σ + 1 ≤ 20; omega
  · intro q
    show upN (cT_ends σ) (cT_opened σ) (cT_ends σ o) q < 20
    by_cases e : q = cT_opened σ
    · rw [e, upN_s]; exact r5.2.2.1 o
    · rw [upN_n e]; exact r5.2.2.1 q
  · intro u hu j hj
    rw [mOpenAlias_targets] at hu
    show bt (cT_reached σ u) j = true ↔ mR_standsFor (mOpenAlias m o) u = u ∧ (j = u ∨ ∃ z i, z < 3 ∧ i < mR_rowSize (mOpenAlias m o) (3 * u + z) ∧ bt (cT_reached σ (mU (mOpenAlias m o) u z i)) j = true)
    rw [mOpenAlias_rowSize]
    by_cases e : u = mR_targets m
    · rw [e, hst, upN_s, r9 _ (by omega) j]
      constructor
      · intro q; exact absurd q (by decide)
      · intro ⟨q, _⟩
        omega
    · have hu' : u < mR_targets m := by omega
      rw [hsl u hu', r6 u hu' j hj]
      constructor
      · intro ⟨q1, q2⟩
        refine ⟨q1, ?_⟩
        rcases q2 with q2 | ⟨z, i, hz, hi, q2⟩
        · exact Or.inl q2
        · exact Or.inr ⟨z, i, hz, hi, by rw [hmu u z i hu' hz hi]; exact q2⟩
      · intro ⟨q1, q2⟩
        refine ⟨q1, ?_⟩
        rcases q2 with q2 | ⟨z, i, hz, hi, q2⟩
        · exact Or.inl q2
        · rw [hmu u z i hu' hz hi] at q2
          exact Or.inr ⟨z, i, hz, hi, q2⟩
  · show reachA (cA_reached σ) (mOpenAlias m o)
    unfold reachA
    rw [mOpenAlias_aspects, mOpenAlias_needs, mOpenAlias_needMany]
    exact r7
  · rw [mOpenAlias_touched]; exact e1
  · intro q hq
    rw [mOpenAlias_targets] at hq
    by_cases e : q = mR_targets m
    · rw [e, hst, upN_s, upN_n (by omega)]
      exact ⟨by omega, ho2.2⟩
    · have hq' : q < mR_targets m := by omega
      have h2 := e2 q hq'
      rw [hsl q hq', hsl _ (by omega)]
      exact h2
  · intro t z i ht hz hi
    rw [mOpenAlias_rowSize] at hi
    rw [mOpenAlias_row]
    exact e3 t z i (hlt t z i hz hi) hz hi
  · intro t z ht hz
    rw [mOpenAlias_targets] at ht
    rw [mOpenAlias_rowSize]
    exact e4 t z (by omega) hz
  · rw [mOpenAlias_aspects, mOpenAlias_needMany]; exact e5
  · intro q hq j
    have hq : cT_opened σ + 1 ≤ q := hq
    exact r9 q (by omega) j
section OPO
variable {l : Launch} {K : zK} {GC : Nat → Nat} {AC : Nat → Prop} {GM : Nat → Nat} {AM : Nat → Prop} {σ : cS} {m : mS}
theorem op_target (hC : ∀ σ, va_D AC (cW K GC σ)) (hM : ∀ σ, va_D AM (mW K GM σ)) (h : Rel σ m) (v : Int64) (g : Int32) : Op l K GC AC GM AM σ m zy_W_target zws_W_target zy_R_target zws_R_target [.long v, .int g] := by
  obtain ⟨r1, r2, r3, r4, r5, -⟩ := id h
  by_cases hn : mR_targets m < 20
  · have h1 := k_W_target_1 l K GC AC hC σ v g (by rw [r1.1]; exact hn) r5
    rw [r1.1] at h1
    exact ⟨1, 1, _, _, _, by decide, by decide, h1, r_target_1 l K GM AM hM m v g r4 hn, rel_target h hn v _⟩
  · have e : mR_targets m = 20 := by have := r4.1; omega
    exact ⟨1, 1, _, _, _, by decide, by decide, k_W_target_0 l K GC AC hC σ v g (r1.1.trans e) r5, r_target_0 l K GM AM hM m v g r4 e, h.thrown 0⟩
theorem op_alias (hC : ∀ σ, va_D AC (cW K GC σ)) (hM : ∀ σ, va_D AM (mW K GM σ)) (h : Rel σ m) (x : Int32) : Op l K GC AC GM AM σ m zy_W_alias zws_W_alias zy_R_alias zws_R_alias [.int x] := by
  obtain ⟨r1, r2, r3, r4, r5, -⟩ := id h
  by_cases hx : cHas (cT_opened σ) x = 0
  · exact ⟨1, 1, _, _, _, by decide, by decide, k_W_alias_n l K GC AC hC σ x hx r5, r_alias_n l K GM AM hM m x r4 (by rw [← r1.1]; exact hx), h.thrown 0⟩
  · obtain ⟨n, hn, rfl⟩ := cHas_ex (by have := r5.1; omega) hx
    have hn' : n < mR_targets m := by rw [← r1.1]; exact hn
    by_cases h20 : mR_targets m < 20
    · have h1 := k_W_alias_1 l K GC AC hC σ n hn (by rw [r1.1]; exact h20) r5
      rw [r1.1] at h1
      exact ⟨1, 1, _, _, _, by decide, by decide, h1, r_alias_1 l K GM AM hM m n r4 hn' h20, rel_alias h h20 hn'⟩
    · have e : mR_targets m = 20 := by have := r4.1; omega
      exact ⟨1, 1, _, _, _, by decide, by decide, k_W_alias_0 l K GC AC hC σ n hn (r1.1.trans e) r5, r_alias_0 l K GM AM hM m n r4 hn' e, h.thrown 0⟩
end OPO
