/-! add -/
theorem cReachL_form (σ : cS) (n o i : Nat) : ∃ R, cReachL σ n o i = p_cT_reached σ R := by
  induction i with
  | zero => exact ⟨cT_reached σ, rfl⟩
  | succ i ih =>
    obtain ⟨R, h⟩ := ih
    rw [cReachL]
    split
    · exact ⟨R, h⟩
    · rw [h]; exact ⟨_, rfl⟩
theorem cReachL_hi (σ : cS) (n o : Nat) : ∀ i q, i ≤ q → cT_reached (cReachL σ n o i) q = cT_reached σ q := by
  intro i
  induction i with
  | zero => intro q _; rfl
  | succ i ih =>
    intro q hq
    rw [cReachL]
    split
    · exact ih q (by omega)
    · show upd (cT_reached (cReachL σ n o i)) i _ q = _
      rw [upd_n (by omega)]
      exact ih q (by omega)
theorem rel_add {σ : cS} {m : mS} (h : Rel σ m) {n w o : Nat} (hn : n < mR_targets m) (hon : o < n) (hw : w < 3) (he : mR_standsFor m n = n) (h4 : mR_rowSize m (3 * n + w) < 4) : Rel (cAppend σ n w (cT_ends σ o)) (mAdd0 m n w o) := by
  obtain ⟨r1, r2, r3, r4, r5, r6, r7, r8, r9⟩ := id h
  obtain ⟨s1, s2, s3, s4, s5, s6, s7, s8, s9, s10, s11, s12, s13, s14⟩ := r1
  obtain ⟨e1, e2, e3, e4, e5⟩ := r8
  have hT20 := r4.1
  have ho2 := e2 o (by omega)
  have hlow := h.low
  have hno : bt (cT_reached σ (mR_standsFor m o)) n = false := by
    cases e : bt (cT_reached σ (mR_standsFor m o)) n with
    | false => rfl
    | true => have := reachT_le r6 hlow (mR_standsFor m o) (mR_standsFor m o) n (Nat.le_refl _) (by omega) (by omega) e; omega
  rw [s2]
  obtain ⟨R, hR⟩ := cReachL_form (cAppend0 σ n w (mR_standsFor m o)) n (mR_standsFor m o) (cT_opened σ)
  have heff : ∀ q j, q < mR_targets m → j < 20 → bt (R q) j = (bt (cT_reached σ q) j || (bt (cT_reached σ q) n && bt (cT_reached σ (mR_standsFor m o)) j)) := fun q j hq hj => by
    have h1 := reachL_eff (cAppend0 σ n w (mR_standsFor m o)) (n := n) (o := mR_standsFor m o) (by omega) hno (cT_opened σ) q j (by omega)
    rw [hR] at h1
    have h2 : decide (q < cT_opened σ) = true := decide_eq_true (by omega)
    rw [h2, Bool.true_and] at h1
    exact h1
  have hhi : ∀ q, cT_opened σ ≤ q → R q = cT_reached σ q := fun q hq => by
    have h1 := cReachL_hi (cAppend0 σ n w (mR_standsFor m o)) n (mR_standsFor m o) (cT_opened σ) q hq
    rw [hR] at h1
    exact h1
  have hF : cAppend σ n w (mR_standsFor m o) = p_cT_reached (cAppend0 σ n w (mR_standsFor m o)) R := hR
  rw [hF]
  have hro : mR_row (mAdd0 m n w o) = upN (mR_row m) (12 * n + 4 * w + mR_rowSize m (3 * n + w)) o := mAdd0_row m n w o
  have hrs : mR_rowSize (mAdd0 m n w o) = upN (mR_rowSize m) (3 * n + w) (mR_rowSize m (3 * n + w) + 1) := mAdd0_rowSize m n w o
  have hst : mR_standsFor (mAdd0 m n w o) = mR_standsFor m := mAdd0_standsFor m n w o
  have hixe : ∀ t z, z < 3 → (3 * t + z = 3 * n + w ↔ t = n ∧ z = w) := fun t z hz => by omega
  have hrow : ∀ t z i, z < 3 → i < mR_rowSize m (3 * t + z) → mR_row (mAdd0 m n w o) (12 * t + 4 * z + i) = mR_row m (12 * t + 4 * z + i) := fun t z i hz hi => by
    have h5 := r4.2.2.2.2.1 (3 * t + z)
    rw [hro, upN_n]
    intro e
    have e' : 3 * t + z = 3 * n + w := by omega
    rw [e'] at hi
    omega
  have hrs2 : ∀ t z, z < 3 → mR_rowSize (mAdd0 m n w o) (3 * t + z) = if t = n ∧ z = w then mR_rowSize m (3 * n + w) + 1 else mR_rowSize m (3 * t + z) := fun t z hz => by
    rw [hrs]
    by_cases e : t = n ∧ z = w
    · rw [if_pos e, e.1, e.2, upN_s]
    · rw [if_neg e, upN_n (fun q => e ((hixe t z hz).mp q))]
  have hnew : mR_row (mAdd0 m n w o) (12 * n + 4 * w + mR_rowSize m (3 * n + w)) = o := by rw [hro, upN_s]
  have hmu : ∀ t z i, z < 3 → i < mR_rowSize m (3 * t + z) → mU (mAdd0 m n w o) t z i = mU m t z i := fun t z i hz hi => by
    show mR_standsFor (mAdd0 m n w o) (mR_row (mAdd0 m n w o) _) = _
    rw [hst, hrow t z i hz hi]
  have hmn : mU (mAdd0 m n w o) n w (mR_rowSize m (3 * n + w)) = mR_standsFor m o := by
    show mR_standsFor (mAdd0 m n w o) (mR_row (mAdd0 m n w o) _) = _
    rw [hst, hnew]
  have hcase : ∀ t z i, z < 3 → i < mR_rowSize (mAdd0 m n w o) (3 * t + z) → i < mR_rowSize m (3 * t + z) ∨ (t = n ∧ z = w ∧ i = mR_rowSize m (3 * n + w)) := fun t z i hz hi => by
    rw [hrs2 t z hz] at hi
    split at hi
    · rename_i e
      rw [e.1, e.2]
      by_cases q : i = mR_rowSize m (3 * n + w)
      · exact Or.inr ⟨rfl, rfl, q⟩
      · exact Or.inl (by omega)
    · exact Or.inl hi
  refine ⟨⟨?_, ?_, ?_, ?_, ?_, ?_, ?_, ?_, ?_, ?_, ?_, ?_, ?_, ?_⟩, ?_, ⟨?_, ?_, ?_, ?_, ?_, r3.2.2.2.2.2⟩, ⟨?_, ?_, ?_, ?_, ?_, ?_, ?_, ?_, ?_⟩, ⟨r5.1, r5.2.1, r5.2.2.1, ?_, ?_, r5.2.2.2.2.2⟩, ?_, ?_, ⟨?_, ?_, ?_, ?_, ?_⟩, ?_⟩
  · show cT_opened σ = _; rw [mAdd0_targets, s1]
  · show cT_ends σ = _; rw [hst, s2]
  · show cT_values σ = _; rw [mAdd0_value, s3]
  · show cT_providers σ = _; rw [mAdd0_providers, s4]
  · show upN (cT_rowLengths σ) (n * 3 + w) (cT_rowLengths σ (n * 3 + w) + 1) = _; rw [hrs, s5, Nat.mul_comm n 3]
  · intro t z i ht hz hi
    show upN (cT_rows σ) ((n * 3 + w) * 4 + cT_rowLengths σ (n * 3 + w)) (mR_standsFor m o) ((t * 3 + z) * 4 + i) = _
    rw [s5, Nat.mul_comm n 3]
    rcases hcase t z i hz hi with q | ⟨rfl, rfl, rfl⟩
    · have h5 := r4.2.2.2.2.1 (3 * t + z)
      rw [upN_n, hmu t z i hz q]
      · exact s6 t z i ht hz q
      · intro e
        have e' : 3 * t + z = 3 * n + w := by omega
        rw [e'] at q
        omega
    · rw [hmn, Nat.mul_comm t 3, upN_s]
  · show cA_opened σ = _; rw [mAdd0_aspects, s7]
  · show cA_kinds σ = _; rw [mAdd0_kind, s8]
  · show cA_alongs σ = _; rw [mAdd0_along, s9]
  · show cA_wants σ = _; rw [mAdd0_wants, s10]
  · show cA_gives σ = _; rw [mAdd0_gives, s11]
  · show cA_names σ = _; rw [mAdd0_nameOf, s12]
  · show cA_needs σ = _; rw [mAdd0_needs, s13]
  · show cA_needCounts σ = _; rw [mAdd0_needMany, s14]
  · exact dRel_of (σ := σ) r2 (mAdd0_known m n w o) (mAdd0_results m n w o) (mAdd0_times m n w o) (mAdd0_clashTold m n w o) (mAdd0_madeBy m n w o)
  · rw [mAdd0_known, mAdd0_targets, mAdd0_aspects]; exact r3.1
  · rw [mAdd0_madeBy, mAdd0_nameOf, mAdd0_known]; exact r3.2.1
  · rw [mAdd0_known]; exact r3.2.2.1
  · intro q; rw [mAdd0_madeBy]; exact r3.2.2.2.1 q
  · rw [mAdd0_known]; exact r3.2.2.2.2.1
  · rw [mAdd0_targets]; exact hT20
  · rw [mAdd0_aspects]; exact r4.2.1
  · rw [hst]; exact r4.2.2.1
  · intro q
    rw [hro]
    by_cases e : q = 12 * n + 4 * w + mR_rowSize m (3 * n + w)
    · rw [e, upN_s]; omega
    · rw [upN_n e]; exact r4.2.2.2.1 q
  · intro q
    rw [hrs]
    by_cases e : q = 3 * n + w
    · rw [e, upN_s]; omega
    · rw [upN_n e]; exact r4.2.2.2.2.1 q
  · rw [mAdd0_needs]; exact r4.2.2.2.2.2.1
  · rw [mAdd0_needMany]; exact r4.2.2.2.2.2.2.1
  · rw [mAdd0_kind]; exact r4.2.2.2.2.2.2.2.1
  · rw [mAdd0_nameOf]; exact r4.2.2.2.2.2.2.2.2
  · intro q
    show upN (cT_rows σ) ((n * 3 + w) * 4 + cT_rowLengths σ (n * 3 + w)) (mR_standsFor m o) q < 20
    by_cases e : q = (n * 3 + w) * 4 + cT_rowLengths σ (n * 3 + w)
    · rw [e, upN_s]; omega
    · rw [upN_n e]; exact r5.2.2.2.1 q
  · intro q
    show upN (cT_rowLengths σ) (n * 3 + w) (cT_rowLengths σ (n * 3 + w) + 1) q ≤ 4
    by_cases e : q = n * 3 + w
    · rw [e, upN_s, s5, Nat.mul_comm n 3]; omega
    · rw [upN_n e]; exact r5.2.2.2.2.1 q
  · show reachT (p_cT_reached (cAppend0 σ n w (mR_standsFor m o)) R) (mAdd0 m n w o)
    exact reachT_add (o := mR_standsFor m o) hT20 r6 hlow hn (by omega) hw he (mAdd0_targets m n w o) hst (fun u z _ hz => hrs2 u z hz) (fun u z i _ hz hi => hmu u z i hz hi) hmn heff
  · show reachA (cA_reached σ) (mAdd0 m n w o)
    unfold reachA
    rw [mAdd0_aspects, mAdd0_needs, mAdd0_needMany]
    exact r7
  · rw [mAdd0_touched]; exact e1
  · rw [mAdd0_targets, hst]; exact e2
  · intro t z i ht hz hi
    rw [mAdd0_targets] at ht
    rcases hcase t z i hz hi with q | ⟨rfl, rfl, rfl⟩
    · rw [hrow t z i hz q]; exact e3 t z i ht hz q
    · rw [hnew]; exact hon
  · intro t z ht hz
    rw [mAdd0_targets] at ht
    rw [hrs2 t z hz, if_neg (by omega)]
    exact e4 t z ht hz
  · rw [mAdd0_aspects, mAdd0_needMany]; exact e5
  · intro q hq j
    have hq : cT_opened σ ≤ q := hq
    show bt (R q) j = false
    rw [hhi q hq]
    exact r9 q hq j
section OPD
variable {l : Launch} {K : zK} {GC : Nat → Nat} {AC : Nat → Prop} {GM : Nat → Nat} {AM : Nat → Prop} {σ : cS} {m : mS}
theorem op_add (hC : ∀ σ, va_D AC (cW K GC σ)) (hM : ∀ σ, va_D AM (mW K GM σ)) (h : Rel σ m) (x y z : Int32) : Op l K GC AC GM AM σ m zy_W_add zws_W_add zy_R_add zws_R_add [.int x, .int y, .int z] := by
  obtain ⟨r1, r2, r3, r4, r5, r6, r7, r8, r9⟩ := id h
  have sT := r1.1
  have sE := r1.2.1
  have sL := r1.2.2.2.2.1
  by_cases hx : ∃ n o w, n < cT_opened σ ∧ x = nI n ∧ o < cT_opened σ ∧ z = nI o ∧ cT_ends σ n = n ∧ w < 3 ∧ y = nI w ∧ o < n
  · obtain ⟨n, o, w, hn, rfl, ho, rfl, he, hw, rfl, hon⟩ := hx
    have hn' : n < mR_targets m := by omega
    have ho' : o < mR_targets m := by omega
    have he' : mR_standsFor m n = n := by rw [← sE]; exact he
    by_cases h4 : mR_rowSize m (3 * n + w) < 4
    · have hRel := rel_add h hn' hon hw he' h4
      have hF := rel_forget hRel (n := n) (by rw [mAdd0_targets]; exact hn') (by rw [mAdd0_standsFor]; exact he')
      rw [mAdd0_targets] at hF
      exact ⟨3, 2, _, _, _, by decide, by decide, k_W_add_1 l K GC AC hC σ n w o hn ho he hw hon (by rw [sL, Nat.mul_comm n 3]; exact h4) hRel.2.2.2.2.1 r5, r_add_1 l K GM AM hM m n w o r4 hn' ho' he' hw hon h4 hRel.2.2.2.1 r8.1, hF⟩
    · have e4 : mR_rowSize m (3 * n + w) = 4 := by have := r4.2.2.2.2.1 (3 * n + w); omega
      exact ⟨3, 2, _, _, _, by decide, by decide, k_W_add_0 l K GC AC hC σ n w o hn ho he hw hon (by rw [sL, Nat.mul_comm n 3]; exact e4) r5, r_add_0 l K GM AM hM m n w o r4 hn' ho' he' hw hon e4, h.thrown 0⟩
  · exact ⟨1, 2, _, _, _, by decide, by decide, k_W_add_bad l K GC AC hC σ x y z hx r5, r_add_bad l K GM AM hM m x y z r4 (by rw [← sT, ← sE]; exact hx), h.thrown 0⟩
end OPD
