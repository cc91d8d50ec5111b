/-! result on both sides -/
/-- how result goes on both sides: the class throws and the reference says so, or both answer the same -/
def OpR (l : Launch) (K : zK) (GC GM : Nat → Nat) (AM : Nat → Prop) (σ : cS) (m : mS) (x y z : Int32) : Prop :=
  (∃ (X : String) (j : Nat) (v : Int64), ((X = zXA ∧ j = 1) ∨ (X = zXS ∧ j = 2)) ∧ zMetT l K zy_W_result zws_W_result 6 [.ref (GC 0), .int x, .int y, .int z] (cW K GC σ) X ∧ zMet l K AM zy_R_result zws_R_result 1 [.ref (GM 0), .int x, .int y, .int z] (mW K GM m) (mW K GM (p_mR_thrown m j)) (some (.long v))) ∨
  (∃ r : Int64, zMet l K (fun _ => False) zy_W_result zws_W_result 2 [.ref (GC 0), .int x, .int y, .int z] (cW K GC σ) (cW K GC σ) (some (.long r)) ∧ zMet l K AM zy_R_result zws_R_result 1 [.ref (GM 0), .int x, .int y, .int z] (mW K GM m) (mW K GM (p_mR_thrown m 0)) (some (.long r)))
theorem op_result {l : Launch} (hlt : l.stackTraces = false) {K : zK} {GC GM : Nat → Nat} {AM : Nat → Prop} {σ : cS} {m : mS} (hM : ∀ σ, va_D AM (mW K GM σ)) (h : Rel σ m) (x y z : Int32) : OpR l K GC GM AM σ m x y z := by
  obtain ⟨r1, r2, r3, r4, r5, -⟩ := id h
  by_cases hx : ∃ t a k, t < cT_opened σ ∧ x = nI t ∧ a < cA_opened σ ∧ y = nI a ∧ k < 16 ∧ z = nI k
  · obtain ⟨t, a, k, ht, rfl, ha, rfl, hk, rfl⟩ := hx
    have ht' : t < mR_targets m := by rw [← r1.1]; exact ht
    have ha' : a < mR_aspects m := by rw [← r1.2.2.2.2.2.2.1]; exact ha
    have hle : mR_known m ((mR_standsFor m t * 8 + a) * 16 + k) ≤ 2 := r3.2.2.1 _
    have hK : cKnown σ (cT_ends σ t) a k = nI (mR_known m ((mR_standsFor m t * 8 + a) * 16 + k)) - nI 1 := by
      rw [cKnown_st (by omega), ← r2.1 _ _ _ (r5.2.2.1 t) (by have := r5.2.1; omega) hk, r1.2.1]
    by_cases h2 : mR_known m ((mR_standsFor m t * 8 + a) * 16 + k) = 2
    · refine Or.inr ⟨_, q_W_result l K GC (fun _ => False) trivial σ t a k ht ha hk r5 (by rw [hK, h2]; decide), ?_⟩
      rw [r2.2.1, r1.2.1]
      exact r_result_1 l K GM AM hM m t a k r4 ht' ha' hk h2
    · refine Or.inl ⟨zXS, 2, _, Or.inr ⟨rfl, rfl⟩, t_W_result_2 l hlt K GC σ t a k ht ha hk r5 ?_, r_result_2 l K GM AM hM m t a k r4 ht' ha' hk hle h2⟩
      rw [hK]
      have h3 : mR_known m ((mR_standsFor m t * 8 + a) * 16 + k) = 0 ∨ mR_known m ((mR_standsFor m t * 8 + a) * 16 + k) = 1 := by omega
      rcases h3 with h3 | h3 <;> rw [h3] <;> decide
  · exact Or.inl ⟨zXA, 1, _, Or.inl ⟨rfl, rfl⟩, t_W_result_n l hlt K GC σ x y z hx r5, r_result_n l K GM AM hM m x y z r4 (fun q => hx ((ask_iff h x y z).mpr q))⟩
