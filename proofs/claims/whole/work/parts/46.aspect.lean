/-! aspect, change -/
theorem name_ok {y : Int32} (h1 : ¬ y < -1) (h2 : y < nI 10) : y = -1 ∨ ∃ n, n < 10 ∧ y = nI n := by
  by_cases h : y < 0
  · left
    apply Int32.toInt_inj.mp
    rw [Int32.lt_iff_toInt_lt] at h h1
    have e1 : (-1 : Int32).toInt = -1 := by decide
    have e2 : (0 : Int32).toInt = 0 := by decide
    omega
  · right
    exact z_rng h (Int32.not_le.mpr h2) (by decide)
theorem rel_aspect {σ : cS} {m : mS} (h : Rel σ m) (hn : mR_aspects m < 8) {q : Nat} (hq : q < 4) (al w g : Int32) {y : Int32} (hy : y = -1 ∨ ∃ n, n < 10 ∧ y = nI n) : Rel (cOpenA σ q al w g y) (mOpenA m q al w g y) := by
  obtain ⟨r1, r2, r3, r4, r5, r6, r7, r8, r9⟩ := id h
  obtain ⟨s1, s2, s3, s4, s5, s6, s7, s8, s9, s10, s11, s12, s13, s14⟩ := r1
  obtain ⟨e1, e2, e3, e4, e5⟩ := r8
  have hnm : mR_nameOf (mOpenA m q al w g y) = upd (mR_nameOf m) (mR_aspects m) y := mOpenA_nameOf m q al w g y
  refine ⟨⟨?_, ?_, ?_, ?_, ?_, ?_, ?_, ?_, ?_, ?_, ?_, ?_, ?_, ?_⟩, ?_, ⟨?_, ?_, ?_, ?_, ?_, r3.2.2.2.2.2⟩, ⟨?_, ?_, ?_, ?_, ?_, ?_, ?_, ?_, ?_⟩, ⟨r5.1, ?_, r5.2.2.1, r5.2.2.2.1, r5.2.2.2.2.1, r5.2.2.2.2.2.1, r5.2.2.2.2.2.2.1, ?_, ?_⟩, ?_, ⟨?_, ?_⟩, ⟨?_, ?_, ?_, ?_, ?_⟩, r9⟩
  · show cT_opened σ = _; rw [mOpenA_targets, s1]
  · show cT_ends σ = _; rw [mOpenA_standsFor, s2]
  · show cT_values σ = _; rw [mOpenA_value, s3]
  · show cT_providers σ = _; rw [mOpenA_providers, s4]
  · show cT_rowLengths σ = _; rw [mOpenA_rowSize, s5]
  · intro t z i ht hz hi
    rw [mOpenA_rowSize] at hi
    show cT_rows σ _ = mR_standsFor (mOpenA m q al w g y) (mR_row (mOpenA m q al w g y) _)
    rw [mOpenA_standsFor, mOpenA_row]
    exact s6 t z i ht hz hi
  · show cA_opened σ + 1 = _; rw [mOpenA_aspects, s7]
  · show upN (cA_kinds σ) (cA_opened σ) q = _; rw [mOpenA_kind, s8, s7]
  · show upd (cA_alongs σ) (cA_opened σ) al = _; rw [mOpenA_along, s9, s7]
  · show upd (cA_wants σ) (cA_opened σ) w = _; rw [mOpenA_wants, s10, s7]
  · show upd (cA_gives σ) (cA_opened σ) g = _; rw [mOpenA_gives, s11, s7]
  · show upd (cA_names σ) (cA_opened σ) y = _; rw [hnm, s12, s7]
  · show cA_needs σ = _; rw [mOpenA_needs, s13]
  · show cA_needCounts σ = _; rw [mOpenA_needMany, s14]
  · exact dRel_of (σ := σ) r2 (mOpenA_known m q al w g y) (mOpenA_results m q al w g y) (mOpenA_times m q al w g y) (mOpenA_clashTold m q al w g y) (mOpenA_madeBy m q al w g y)
  · intro t a k ht ha hk hne
    rw [mOpenA_known] at hne
    rw [mOpenA_targets, mOpenA_aspects]
    have := r3.1 t a k ht ha hk hne
    omega
  · intro t n a k ht hn' ha hk e
    rw [mOpenA_madeBy] at e
    rw [hnm, mOpenA_known]
    have h1 := r3.2.1 t n a k ht hn' ha hk e
    have h2 := r3.1 t a k ht ha hk (by rw [h1.2]; decide)
    rw [upd_n (by omega)]
    exact h1
  · rw [mOpenA_known]; exact r3.2.2.1
  · intro x; rw [mOpenA_madeBy]; exact r3.2.2.2.1 x
  · rw [mOpenA_known]; exact r3.2.2.2.2.1
  · rw [mOpenA_targets]; exact r4.1
  · rw [mOpenA_aspects]; omega
  · rw [mOpenA_standsFor]; exact r4.2.2.1
  · rw [mOpenA_row]; exact r4.2.2.2.1
  · rw [mOpenA_rowSize]; exact r4.2.2.2.2.1
  · rw [mOpenA_needs]; exact r4.2.2.2.2.2.1
  · rw [mOpenA_needMany]; exact r4.2.2.2.2.2.2.1
  · intro x
    rw [mOpenA_kind]
    by_cases e : x = mR_aspects m
    · rw [e, upN_s]; omega
    · rw [upN_n e]; exact r4.2.2.2.2.2.2.2.1 x
  · intro x
    rw [hnm]
    by_cases e : x = mR_aspects m
    · rw [e, upd_s]; exact hy
    · rw [upd_n e]; exact r4.2.2.2.2.2.2.2.2 x
  · show cA_opened σ + 1 ≤ 8; omega
  · intro x
    show upN (cA_kinds σ) (cA_opened σ) q x ≤ 3
    by_cases e : x = cA_opened σ
    · rw [e, upN_s]; omega
    · rw [upN_n e]; exact r5.2.2.2.2.2.2.2.1 x
  · intro x
    show upd (cA_names σ) (cA_opened σ) y x = -1 ∨ ∃ n, n < 10 ∧ upd (cA_names σ) (cA_opened σ) y x = nI n
    by_cases e : x = cA_opened σ
    · rw [e, upd_s]; exact hy
    · rw [upd_n e]; exact r5.2.2.2.2.2.2.2.2 x
  · show reachT σ (mOpenA m q al w g y)
    unfold reachT mU
    rw [mOpenA_targets, mOpenA_standsFor, mOpenA_row, mOpenA_rowSize]
    exact r6
  · intro a ha j hj
    rw [mOpenA_aspects] at ha
    show bt (upd (cA_reached σ) (cA_opened σ) (nI 1 <<< (nI (cA_opened σ) &&& 31)) a) j = true ↔ j = a ∨ ∃ i, i < mR_needMany (mOpenA m q al w g y) a ∧ bt (upd (cA_reached σ) (cA_opened σ) (nI 1 <<< (nI (cA_opened σ) &&& 31)) (mR_needs (mOpenA m q al w g y) (3 * a + i))) j = true
    rw [mOpenA_needMany, mOpenA_needs, s7]
    by_cases e : a = mR_aspects m
    · rw [e, upd_s, bt_one (by omega) (by omega)]
      constructor
      · intro x; exact Or.inl (by simpa using x)
      · intro x
        rcases x with x | ⟨i, hi, _⟩
        · simpa using x
        · rw [e5 _ (Nat.le_refl _)] at hi; omega
    · have ha' : a < mR_aspects m := by omega
      rw [upd_n e, r7.1 a ha' j hj]
      constructor
      · intro x
        rcases x with x | ⟨i, hi, x⟩
        · exact Or.inl x
        · exact Or.inr ⟨i, hi, by rw [upd_n (by have := (r7.2 a i ha' hi).1; omega)]; exact x⟩
      · intro x
        rcases x with x | ⟨i, hi, x⟩
        · exact Or.inl x
        · rw [upd_n (by have := (r7.2 a i ha' hi).1; omega)] at x
          exact Or.inr ⟨i, hi, x⟩
  · intro a i ha hi
    rw [mOpenA_aspects] at ha ⊢
    rw [mOpenA_needMany] at hi
    show _ ∧ bt (upd (cA_reached σ) (cA_opened σ) _ (mR_needs (mOpenA m q al w g y) (3 * a + i))) a = false
    rw [mOpenA_needs]
    have ha' : a < mR_aspects m := by
      rcases Nat.lt_or_ge a (mR_aspects m) with x | x
      · exact x
      · rw [e5 a x] at hi; omega
    have h1 := r7.2 a i ha' hi
    rw [upd_n (by omega)]
    exact ⟨by omega, h1.2⟩
  · rw [mOpenA_touched]; exact e1
  · rw [mOpenA_targets, mOpenA_standsFor]; exact e2
  · rw [mOpenA_targets, mOpenA_rowSize, mOpenA_row]; exact e3
  · rw [mOpenA_targets, mOpenA_rowSize]; exact e4
  · intro a ha
    rw [mOpenA_aspects] at ha
    rw [mOpenA_needMany]
    exact e5 a (by omega)
theorem sRel_cs {τ σ : cS} {m : mS} (h : cSame τ σ) (hS : sRel σ m) : sRel τ m := by
  obtain ⟨T, A, x⟩ := σ
  obtain ⟨T', A', x'⟩ := τ
  obtain ⟨h1, h2⟩ := h
  dsimp only at h1 h2
  subst h1; subst h2
  exact hS
/-- what has changed is forgotten, on both sides -/
theorem rel_forget {σ : cS} {m : mS} (h : Rel σ m) {n : Nat} (hn : n < mR_targets m) (hown : mR_standsFor m n = n) : Rel (cFF σ n (cT_opened σ)) (mFF m n (mR_targets m)) := by
  obtain ⟨r1, r2, r3, r4, r5, r6, r7, r8, r9⟩ := id h
  have hf := forget_targets (n := n) r1.2.2.2.2.2.2.2.2.2.2.2.1 r2 r3 r1.2.2.2.2.2.2.1 r4.2.1 r4.1 r6 h.low hn hown (mR_targets m) (Nat.le_refl _)
  have hs := cFF_same σ n (mR_targets m)
  have hm := mFF_same m n (mR_targets m)
  have ht := mFF_touched m n (mR_targets m) r8.1
  rw [r1.1]
  obtain ⟨f1, f2, -⟩ := hf
  have hre : cT_reached (cFF σ n (mR_targets m)) = cT_reached σ := by unfold cT_reached; rw [hs.1]
  have hra : cA_reached (cFF σ n (mR_targets m)) = cA_reached σ := by unfold cA_reached; rw [hs.2]
  refine ⟨sRel_same hm (sRel_cs hs r1), f1, f2, mB_same hm r4, cB_same hs r5, ?_, ?_, ?_, ?_⟩
  · have h1 := reachT_same hm r6
    unfold reachT at h1 ⊢
    rw [hre]; exact h1
  · rw [hra]; exact reachA_same hm r7
  · obtain ⟨a1, a2, a3, a4, a5, a6, a7, -⟩ := hm
    refine ⟨ht, ?_⟩
    rw [a1, a2, a3, a4, a5, a7]
    exact r8.2
  · rw [hs.oT, hre]; exact r9
theorem rel_assign {σ : cS} {m : mS} (h : Rel σ m) (n : Nat) (v : Int64) (g : Int32) : Rel (cAssign σ n v g) (mChange m n v g) := by
  obtain ⟨r1, r2, r3, r4, r5, r6, r7, r8, r9⟩ := id h
  obtain ⟨s1, s2, s3, s4, s5, s6, s7, s8, s9, s10, s11, s12, s13, s14⟩ := r1
  obtain ⟨e1, e2, e3, e4, e5⟩ := r8
  refine ⟨⟨?_, ?_, ?_, ?_, ?_, ?_, ?_, ?_, ?_, ?_, ?_, ?_, ?_, ?_⟩, ?_, ⟨?_, ?_, ?_, ?_, ?_, r3.2.2.2.2.2⟩, ?_, r5, ?_, ?_, ?_, r9⟩
  · show cT_opened σ = _; rw [mChange_targets, s1]
  · show cT_ends σ = _; rw [mChange_standsFor, s2]
  · show vp_updL (cT_values σ) n v = _; rw [mChange_value, s3]
  · show upd (cT_providers σ) n g = _; rw [mChange_providers, s4]
  · show cT_rowLengths σ = _; rw [mChange_rowSize, s5]
  · intro t z i ht hz hi
    rw [mChange_rowSize] at hi
    show cT_rows σ _ = mR_standsFor (mChange m n v g) (mR_row (mChange m n v g) _)
    rw [mChange_standsFor, mChange_row]
    exact s6 t z i ht hz hi
  · show cA_opened σ = _; rw [mChange_aspects, s7]
  · show cA_kinds σ = _; rw [mChange_kind, s8]
  · show cA_alongs σ = _; rw [mChange_along, s9]
  · show cA_wants σ = _; rw [mChange_wants, s10]
  · show cA_gives σ = _; rw [mChange_gives, s11]
  · show cA_names σ = _; rw [mChange_nameOf, s12]
  · show cA_needs σ = _; rw [mChange_needs, s13]
  · show cA_needCounts σ = _; rw [mChange_needMany, s14]
  · exact dRel_of (σ := σ) r2 (mChange_known m n v g) (mChange_results m n v g) (mChange_times m n v g) (mChange_clashTold m n v g) (mChange_madeBy m n v g)
  · rw [mChange_known, mChange_targets, mChange_aspects]; exact r3.1
  · rw [mChange_madeBy, mChange_nameOf, mChange_known]; exact r3.2.1
  · rw [mChange_known]; exact r3.2.2.1
  · intro q; rw [mChange_madeBy]; exact r3.2.2.2.1 q
  · rw [mChange_known]; exact r3.2.2.2.2.1
  · unfold mB
    rw [mChange_targets, mChange_aspects, mChange_standsFor, mChange_row, mChange_rowSize, mChange_needs, mChange_needMany, mChange_kind, mChange_nameOf]
    exact r4
  · show reachT σ (mChange m n v g)
    unfold reachT mU
    rw [mChange_targets, mChange_standsFor, mChange_row, mChange_rowSize]
    exact r6
  · show reachA (cA_reached σ) (mChange m n v g)
    unfold reachA
    rw [mChange_aspects, mChange_needs, mChange_needMany]
    exact r7
  · unfold eInv
    rw [mChange_touched, mChange_targets, mChange_standsFor, mChange_row, mChange_rowSize, mChange_aspects, mChange_needMany]
    exact ⟨e1, e2, e3, e4, e5⟩
section OPC
variable {l : Launch} {K : zK} {GC : Nat → Nat} {AC : Nat → Prop} {GM : Nat → Nat} {AM : Nat → Prop} {σ : cS} {m : mS}
theorem op_aspect (hC : ∀ σ, va_D AC (cW K GC σ)) (hM : ∀ σ, va_D AM (mW K GM σ)) (h : Rel σ m) (x al w g y : Int32) : Op l K GC AC GM AM σ m zy_W_aspect zws_W_aspect zy_R_aspect zws_R_aspect [.int x, .int al, .int w, .int g, .int y] := by
  obtain ⟨r1, r2, r3, r4, r5, -⟩ := id h
  have sA := r1.2.2.2.2.2.2.1
  by_cases hx : ∃ q, q < 4 ∧ x = nI q ∧ ¬ y < -1 ∧ y < nI 10
  · obtain ⟨q, hq, rfl, h1, h2⟩ := hx
    by_cases h8 : mR_aspects m < 8
    · have hc := k_W_aspect_1 l K GC AC hC σ q al w g y hq h1 h2 (by rw [sA]; exact h8) r5
      rw [sA] at hc
      exact ⟨1, 2, _, _, _, by decide, by decide, hc, r_aspect_1 l K GM AM hM m q al w g y r4 hq h1 h2 h8, rel_aspect h h8 hq _ _ _ (name_ok h1 h2)⟩
    · have e : mR_aspects m = 8 := by have := r4.2.1; omega
      exact ⟨1, 2, _, _, _, by decide, by decide, k_W_aspect_0 l K GC AC hC σ q al w g y hq h1 h2 (sA.trans e) r5, r_aspect_0 l K GM AM hM m (nI q) al w g y r4 e, h.thrown 0⟩
  · exact ⟨1, 2, _, _, _, by decide, by decide, k_W_aspect_bad l K GC AC hC σ x al w g y hx r5, r_aspect_bad l K GM AM hM m x al w g y r4 hx, h.thrown 0⟩
theorem op_change (hC : ∀ σ, va_D AC (cW K GC σ)) (hM : ∀ σ, va_D AM (mW K GM σ)) (h : Rel σ m) (x : Int32) (v : Int64) (g : Int32) : Op l K GC AC GM AM σ m zy_W_change zws_W_change zy_R_change zws_R_change [.int x, .long v, .int g] := by
  obtain ⟨r1, r2, r3, r4, r5, r6, r7, r8, r9⟩ := id h
  by_cases hx : ∃ n, n < cT_opened σ ∧ x = nI n ∧ cT_ends σ n = n
  · obtain ⟨n, hn, rfl, he⟩ := hx
    have hn' : n < mR_targets m := by rw [← r1.1]; exact hn
    have he' : mR_standsFor m n = n := by rw [← r1.2.1]; exact he
    have hRel := rel_assign h n v (g &&& nI 255)
    by_cases hd : mR_value m n = v ∧ mR_providers m n = g &&& nI 255
    · have hd' : cDiffers σ n v (g &&& nI 255) = 0 := by unfold cDiffers; rw [r1.2.2.1, r1.2.2.2.1, if_pos hd]
      exact ⟨3, 2, _, _, _, by decide, by decide, k_W_change_s l K GC AC hC σ n v g hn he hd' r5, r_change_s l K GM AM hM m n v g r4 hn' he' hd, hRel⟩
    · have hd' : ¬ cDiffers σ n v (g &&& nI 255) = 0 := by unfold cDiffers; rw [r1.2.2.1, r1.2.2.2.1, if_neg hd]; decide
      have hc := k_W_change_d l K GC AC hC σ n v g hn he hd' hRel.2.2.2.2.1 r5
      have hm := r_change_d l K GM AM hM m n v g r4 hn' he' hd hRel.2.2.2.1 r8.1
      have hF := rel_forget hRel (n := n) (by rw [mChange_targets]; exact hn') (by rw [mChange_standsFor]; exact he')
      rw [mChange_targets] at hF
      exact ⟨3, 2, _, _, _, by decide, by decide, hc, hm, hF⟩
  · exact ⟨1, 2, _, _, _, by decide, by decide, k_W_change_bad l K GC AC hC σ x v g hx r5, r_change_bad l K GM AM hM m x v g r4 (by rw [← r1.1, ← r1.2.1]; exact hx), h.thrown 0⟩
end OPC
