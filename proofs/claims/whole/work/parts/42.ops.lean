/-! THE RELATION between class and reference, and the calls that only read -/
def rkOf (σ : cS) : Nat → Nat := fun a => pcB (cA_reached σ a) 8
/-- what holds of targets' numbers, rows and needs in the reference -/
def eInv (m : mS) : Prop := (∀ q, mR_touched m q ≤ 1) ∧ (∀ q, q < mR_targets m → mR_standsFor m q ≤ q ∧ mR_standsFor m (mR_standsFor m q) = mR_standsFor m q) ∧ (∀ t z i, t < mR_targets m → z < 3 → i < mR_rowSize m (3 * t + z) → mR_row m (12 * t + 4 * z + i) < t) ∧ (∀ t z, mR_targets m ≤ t → z < 3 → mR_rowSize m (3 * t + z) = 0) ∧ (∀ a, mR_aspects m ≤ a → mR_needMany m a = 0)
def Rel (σ : cS) (m : mS) : Prop := sRel σ m ∧ dRel σ m ∧ dInv σ m ∧ mB m ∧ cB σ ∧ reachT σ m ∧ reachA (cA_reached σ) m ∧ eInv m ∧ (∀ q, cT_opened σ ≤ q → ∀ j, bt (cT_reached σ q) j = false)
theorem Rel.low {σ : cS} {m : mS} (h : Rel σ m) : ∀ u z i, u < mR_targets m → z < 3 → i < mR_rowSize m (3 * u + z) → mU m u z i < u := by
  obtain ⟨-, -, -, -, -, -, -, ⟨-, e1, e2, -⟩, -⟩ := h
  intro u z i hu hz hi
  have h1 := e2 u z i hu hz hi
  have h2 := (e1 (mR_row m (12 * u + 4 * z + i)) (by omega)).1
  exact Nat.lt_of_le_of_lt h2 h1
theorem Rel.full {σ : cS} {m : mS} (h : Rel σ m) : full (rkOf σ) σ m :=
  ⟨h.1, h.2.1, h.2.2.1, h.2.2.2.1, h.low, fun a i ha hi => ⟨(h.2.2.2.2.2.2.1.2 a i ha hi).1, rk_lt h.2.2.2.1.2.1 h.2.2.2.2.2.2.1 ha hi⟩⟩
theorem mSame_thrown (m : mS) (x : Nat) : mSame (p_mR_thrown m x) m := ⟨rfl, rfl, rfl, rfl, rfl, rfl, rfl, rfl, rfl, rfl, rfl, rfl, rfl, rfl⟩
theorem reachT_same {σ : cS} {m m' : mS} (h0 : mSame m' m) (h : reachT σ m) : reachT σ m' := by
  obtain ⟨a1, a2, a3, a4, a5, -⟩ := h0
  unfold reachT mU
  rw [a1, a3, a4, a5]
  exact h
theorem reachA_same {R : Nat → Int32} {m m' : mS} (h0 : mSame m' m) (h : reachA R m) : reachA R m' := by
  obtain ⟨a1, a2, a3, a4, a5, a6, a7, -⟩ := h0
  unfold reachA
  rw [a2, a6, a7]
  exact h
theorem eInv_same {m m' : mS} (h0 : mSame m' m) (ht : mR_touched m' = mR_touched m) (h : eInv m) : eInv m' := by
  obtain ⟨a1, a2, a3, a4, a5, a6, a7, -⟩ := h0
  unfold eInv
  rw [ht, a1, a2, a3, a4, a5, a7]
  exact h
/-- the reference's fields that the relation doesn't read -/
theorem Rel.of {σ : cS} {m m' : mS} (h : Rel σ m) (h0 : mSame m' m) (h1 : mR_known m' = mR_known m) (h2 : mR_results m' = mR_results m) (h3 : mR_times m' = mR_times m) (h4 : mR_clashTold m' = mR_clashTold m) (h5 : mR_madeBy m' = mR_madeBy m) (h6 : mR_touched m' = mR_touched m) : Rel σ m' := by
  obtain ⟨r1, r2, r3, r4, r5, r6, r7, r8, r9⟩ := h
  obtain ⟨d1, d2⟩ := rel_of r2 r3 h0 h1 h2 h3 h4 h5
  exact ⟨sRel_same h0 r1, d1, d2, mB_same h0 r4, r5, reachT_same h0 r6, reachA_same h0 r7, eInv_same h0 h6 r8, r9⟩
theorem Rel.thrown {σ : cS} {m : mS} (h : Rel σ m) (x : Nat) : Rel σ (p_mR_thrown m x) := h.of (mSame_thrown m x) rfl rfl rfl rfl rfl rfl
/-- one call on both sides: the same answer, and the relation again -/
def Op (l : Launch) (K : zK) (GC : Nat → Nat) (AC : Nat → Prop) (GM : Nat → Nat) (AM : Nat → Prop) (σ : cS) (m : mS) (yc : MethodName) (wc : List Cond) (ym : MethodName) (wm : List Cond) (av : List Value) : Prop := ∃ (kc km : Nat) (r : Int32) (σ' : cS) (m' : mS), kc ≤ 100 ∧ km ≤ 100 ∧ zMet l K AC yc wc kc (.ref (GC 0) :: av) (cW K GC σ) (cW K GC σ') (some (.int r)) ∧ zMet l K AM ym wm km (.ref (GM 0) :: av) (mW K GM m) (mW K GM m') (some (.int r)) ∧ Rel σ' m'
section OPS
variable {l : Launch} {K : zK} {GC : Nat → Nat} {AC : Nat → Prop} {GM : Nat → Nat} {AM : Nat → Prop} {σ : cS} {m : mS}
theorem op_stands (hC : ∀ σ, va_D AC (cW K GC σ)) (hM : ∀ σ, va_D AM (mW K GM σ)) (h : Rel σ m) (x : Int32) : Op l K GC AC GM AM σ m zy_W_stands zws_W_stands zy_R_stands zws_R_stands [.int x] := by
  obtain ⟨r1, r2, r3, r4, r5, -⟩ := id h
  by_cases hx : cHas (cT_opened σ) x = 0
  · exact ⟨1, 1, _, _, _, by decide, by decide, k_W_stands_n l K GC AC hC σ x hx r5, r_stands_n l K GM AM hM m x r4 (by rw [← r1.1]; exact hx), h.thrown 0⟩
  · obtain ⟨n, hn, rfl⟩ := cHas_ex (by have := r5.1; omega) hx
    refine ⟨1, 1, _, _, _, by decide, by decide, k_W_stands_1 l K GC AC hC σ n hn r5, ?_, h.thrown 0⟩
    rw [r1.2.1]
    exact r_stands_1 l K GM AM hM m n r4 (by rw [← r1.1]; exact hn)
theorem op_clash (hC : ∀ σ, va_D AC (cW K GC σ)) (hM : ∀ σ, va_D AM (mW K GM σ)) (h : Rel σ m) (x : Int32) : Op l K GC AC GM AM σ m zy_W_clash zws_W_clash zy_R_clash zws_R_clash [.int x] := by
  obtain ⟨r1, r2, r3, r4, r5, -⟩ := id h
  by_cases hx : ∃ n, n < 5 ∧ x = nI n
  · obtain ⟨n, hn, rfl⟩ := hx
    refine ⟨1, 1, _, _, _, by decide, by decide, k_W_clash_1 l K GC AC hC σ n hn r5, ?_, h.thrown 0⟩
    rw [r2.2.2.2.1]
    exact r_clash_1 l K GM AM hM m n hn
  · exact ⟨1, 1, _, _, _, by decide, by decide, k_W_clash_n l K GC AC hC σ x hx r5, r_clash_n l K GM AM hM m x hx, h.thrown 0⟩
theorem ask_iff (h : Rel σ m) (x y z : Int32) : (∃ t a k, t < cT_opened σ ∧ x = nI t ∧ a < cA_opened σ ∧ y = nI a ∧ k < 16 ∧ z = nI k) ↔ ∃ t a k, t < mR_targets m ∧ x = nI t ∧ a < mR_aspects m ∧ y = nI a ∧ k < 16 ∧ z = nI k := by
  rw [h.1.1, h.1.2.2.2.2.2.2.1]
theorem op_state (hC : ∀ σ, va_D AC (cW K GC σ)) (hM : ∀ σ, va_D AM (mW K GM σ)) (h : Rel σ m) (x y z : Int32) : Op l K GC AC GM AM σ m zy_W_state zws_W_state zy_R_state zws_R_state [.int x, .int y, .int z] := by
  obtain ⟨r1, r2, r3, r4, r5, -⟩ := id h
  by_cases hx : ∃ t a k, t < cT_opened σ ∧ x = nI t ∧ a < cA_opened σ ∧ y = nI a ∧ k < 16 ∧ z = nI k
  · obtain ⟨t, a, k, ht, rfl, ha, rfl, hk, rfl⟩ := hx
    refine ⟨2, 1, _, _, _, by decide, by decide, k_W_state_1 l K GC AC hC σ t a k ht ha hk r5, ?_, h.thrown 0⟩
    rw [cKnown_st (by omega), ← r2.1 _ _ _ (r5.2.2.1 t) (by have := r5.2.1; omega) hk, r1.2.1]
    exact r_state_1 l K GM AM hM m t a k r4 (by rw [← r1.1]; exact ht) (by rw [← r1.2.2.2.2.2.2.1]; exact ha) hk
  · exact ⟨2, 1, _, _, _, by decide, by decide, k_W_state_n l K GC AC hC σ x y z hx r5, r_state_n l K GM AM hM m x y z r4 (fun q => hx ((ask_iff h x y z).mpr q)), h.thrown 0⟩
theorem op_worked (hC : ∀ σ, va_D AC (cW K GC σ)) (hM : ∀ σ, va_D AM (mW K GM σ)) (h : Rel σ m) (x y : Int32) : Op l K GC AC GM AM σ m zy_W_worked zws_W_worked zy_R_worked zws_R_worked [.int x, .int y] := by
  obtain ⟨r1, r2, r3, r4, r5, -⟩ := id h
  by_cases hx : ∃ t a, t < cT_opened σ ∧ x = nI t ∧ a < cA_opened σ ∧ y = nI a
  · obtain ⟨t, a, ht, rfl, ha, rfl⟩ := hx
    refine ⟨2, 1, _, _, _, by decide, by decide, k_W_worked_1 l K GC AC hC σ t a ht ha r5, ?_, h.thrown 0⟩
    rw [r2.2.2.1, r1.2.1, show mR_standsFor m t * 8 + a = 8 * mR_standsFor m t + a by omega]
    exact r_worked_1 l K GM AM hM m t a r4 (by rw [← r1.1]; exact ht) (by rw [← r1.2.2.2.2.2.2.1]; exact ha)
  · exact ⟨1, 1, _, _, _, by decide, by decide, k_W_worked_n l K GC AC hC σ x y hx r5, r_worked_n l K GM AM hM m x y r4 (by rw [← r1.1, ← r1.2.2.2.2.2.2.1]; exact hx), h.thrown 0⟩
theorem op_done (hC : ∀ σ, va_D AC (cW K GC σ)) (hM : ∀ σ, va_D AM (mW K GM σ)) (h : Rel σ m) : Op l K GC AC GM AM σ m zy_W_done zws_W_done zy_R_done zws_R_done [] := by
  obtain ⟨r1, r2, r3, r4, r5, -⟩ := id h
  refine ⟨1, 1, _, _, _, by decide, by decide, k_W_done l K GC AC hC σ r5, ?_, h.thrown 0⟩
  rw [r3.2.2.2.2.1]
  have h1 := r_done l K GM AM hM m r3.2.2.1
  rw [mCnt_z] at h1
  exact h1
theorem op_maker (hC : ∀ σ, va_D AC (cW K GC σ)) (hM : ∀ σ, va_D AM (mW K GM σ)) (h : Rel σ m) (x y : Int32) : Op l K GC AC GM AM σ m zy_W_maker zws_W_maker zy_R_maker zws_R_maker [.int x, .int y] := by
  obtain ⟨r1, r2, r3, r4, r5, -⟩ := id h
  by_cases hx : ∃ t q, t < cT_opened σ ∧ x = nI t ∧ q < 10 ∧ y = nI q
  · obtain ⟨t, q, ht, rfl, hq, rfl⟩ := hx
    have ht' : t < mR_targets m := by rw [← r1.1]; exact ht
    rcases r2.2.2.2.2 (cT_ends σ t) q (r5.2.2.1 t) hq with ⟨e1, e2⟩ | ⟨a, k, ha, hk, e1, e2, e3⟩
    · refine ⟨1, 1, _, _, _, by decide, by decide, k_W_maker_1 l K GC AC hC σ t q ht hq r5, ?_, h.thrown 0⟩
      rw [e1]
      rw [r1.2.1] at e2
      exact r_maker_0 l K GM AM hM m t q r4 ht' hq e2
    · refine ⟨1, 1, _, _, _, by decide, by decide, k_W_maker_1 l K GC AC hC σ t q ht hq r5, ?_, h.thrown 0⟩
      rw [e1]
      rw [r1.2.1] at e3
      have h1 := r_maker_1 l K GM AM hM m t q r4 ht' hq (by rw [e3]; exact nI_ne_m1 (by omega)) (16 * a + k) (by omega) e3
      rw [show (16 * a + k) / 16 = a by omega] at h1
      exact h1
  · exact ⟨1, 1, _, _, _, by decide, by decide, k_W_maker_n l K GC AC hC σ x y hx r5, r_maker_n l K GM AM hM m x y r4 (by rw [← r1.1]; exact hx), h.thrown 0⟩
end OPS
