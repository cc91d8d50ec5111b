/-! apply -/
def mA0 (m : mS) (k : Nat) : mS := p_mR_heap (p_mR_clashes (p_mR_setting (p_mR_thrown m 0) k) 0) 0
theorem mSame_setting (m : mS) (x : Nat) : mSame (p_mR_setting m x) m := ⟨rfl, rfl, rfl, rfl, rfl, rfl, rfl, rfl, rfl, rfl, rfl, rfl, rfl, rfl⟩
theorem Rel.setting {σ : cS} {m : mS} (h : Rel σ m) (x : Nat) : Rel σ (p_mR_setting m x) := h.of (mSame_setting m x) rfl rfl rfl rfl rfl rfl
theorem Rel.clashes {σ : cS} {m : mS} (h : Rel σ m) (x : Nat) : Rel σ (p_mR_clashes m x) := h.of (mFr_clashes m x).1 rfl rfl rfl rfl rfl rfl
theorem Rel.heap {σ : cS} {m : mS} (h : Rel σ m) (x : Nat) : Rel σ (p_mR_heap m x) := h.of (mFr_heap m x).1 rfl rfl rfl rfl rfl rfl
theorem Rel.A0 {σ : cS} {m : mS} (h : Rel σ m) (k : Nat) : Rel σ (mA0 m k) := (((h.thrown 0).setting k).clashes 0).heap 0
theorem cl_cl (m : mS) (x : Nat) : mR_clashes (p_mR_clashes m x) = x := rfl
theorem cl_kn (m : mS) (x : Nat) : mR_known (p_mR_clashes m x) = mR_known m := rfl
theorem cl_st (m : mS) (x : Nat) : mR_setting (p_mR_clashes m x) = mR_setting m := rfl
theorem he_st (m : mS) (x : Nat) : mR_setting (p_mR_heap m x) = mR_setting m := rfl
theorem st_st (m : mS) (x : Nat) : mR_setting (p_mR_setting m x) = x := rfl
theorem st_kn (m : mS) (x : Nat) : mR_known (p_mR_setting m x) = mR_known m := rfl
theorem th_kn (m : mS) (x : Nat) : mR_known (p_mR_thrown m x) = mR_known m := rfl
theorem A0_same (m : mS) (k : Nat) : mSame (mA0 m k) m := (mFr_heap _ _).1.tr ((mFr_clashes _ _).1.tr ((mSame_setting _ _).tr (mSame_thrown _ _)))
theorem A0_f (m : mS) (k : Nat) : mR_heap (mA0 m k) = 0 ∧ mR_clashes (mA0 m k) = 0 ∧ mR_setting (mA0 m k) = k ∧ mR_known (mA0 m k) = mR_known m ∧ mR_standsFor (mA0 m k) = mR_standsFor m ∧ mR_targets (mA0 m k) = mR_targets m ∧ mR_aspects (mA0 m k) = mR_aspects m :=
  ⟨fin_heap _ _, (fin_cl _ _).trans (cl_cl _ _), (he_st _ _).trans ((cl_st _ _).trans (st_st _ _)), (zh_known _ _).trans ((cl_kn _ _).trans ((st_kn _ _).trans (th_kn _ _))), (A0_same m k).2.2.1, (A0_same m k).1, (A0_same m k).2.1⟩
theorem Rel_keep {σ : cS} {m m2 : mS} {μ : cMu} (h : Rel σ m) (hk : Keep m m2) (hf : full (rkOf σ) (σ.1, σ.2.1, μ) m2) : Rel (σ.1, σ.2.1, μ) m2 := by
  obtain ⟨r1, r2, r3, r4, r5, r6, r7, r8, r9⟩ := h
  exact ⟨hf.1, hf.2.1, hf.2.2.1, hf.2.2.2.1, r5, reachT_same (σ := (σ.1, σ.2.1, μ)) hk.1 r6, reachA_same hk.1 r7, eInv_same hk.1 hk.2.2.1 r8, r9⟩
section OPA
variable {l : Launch} {K : zK} {GC : Nat → Nat} {AC : Nat → Prop} {GM : Nat → Nat} {AM : Nat → Prop} {σ : cS} {m : mS}
theorem ans_known {m : mS} {q : Nat} (hc : mR_clashes m = 0) (h2 : mR_known m q ≤ 2) (h0 : ¬ mR_known m q = 0) : mAns m q = nI (mR_known m q) - nI 1 := by
  unfold mAns
  rw [if_pos hc]
  rcases st_cases h2 with e | e | e
  · exact absurd e h0
  · rw [e]; decide
  · rw [e]; decide
theorem op_apply (hC : ∀ σ, va_D AC (cW K GC σ)) (hM : ∀ σ, va_D AM (mW K GM σ)) (h : Rel σ m) (x y z : Int32) : Op l K GC AC GM AM σ m zy_W_apply zws_W_apply zy_R_apply zws_R_apply [.int x, .int y, .int z] := by
  obtain ⟨r1, r2, r3, r4, r5, r6, r7, r8, r9⟩ := id h
  by_cases hx : ∃ t a k, t < cT_opened σ ∧ x = nI t ∧ a < cA_opened σ ∧ y = nI a ∧ k < 16 ∧ z = nI k
  · obtain ⟨t, a, k, ht, rfl, ha, rfl, hk, rfl⟩ := hx
    have ht' : t < mR_targets m := by rw [← r1.1]; exact ht
    have ha' : a < mR_aspects m := by rw [← r1.2.2.2.2.2.2.1]; exact ha
    have ha8 : a < 8 := Nat.lt_of_lt_of_le ha' r4.2.1
    have hu20 := r4.2.2.1 t
    have hut : mR_standsFor m t < mR_targets m := by have := (r8.2.1 t ht').1; omega
    have hcl := k_W_apply_1 l K GC AC hC σ t a k ht ha hk r5
    rw [r1.2.1] at hcl
    have hR0 := h.A0 k
    obtain ⟨z1, z2, z3, z4, z5, z6, z7⟩ := A0_f m k
    have hf0 := hR0.full
    have hkp := r3.2.2.1 ((mR_standsFor m t * 8 + a) * 16 + k)
    by_cases h0 : mR_known m ((mR_standsFor m t * 8 + a) * 16 + k) = 0
    · have hst : mStart m t a k = mPush (mA0 m k) (mR_standsFor m t) a := by unfold mStart; rw [if_pos h0]; rfl
      generalize mA0 m k = m1 at hR0 z1 z2 z3 z4 z5 z6 z7 hf0 hst
      have hrk : mR_standsFor m t + rkOf σ a < 29 := by have := pcB_top (cA_reached σ a) 8; unfold rkOf; have := r4.1; omega
      obtain ⟨n, q1, ⟨q2, q3, q4, -⟩, q5⟩ := do_one (rk := rkOf σ) (T := σ.1) (S := σ.2.1) hk 29 σ.2.2 m1 (mR_standsFor m t) a hf0 z3 (by rw [z6]; exact hut) (by rw [z7]; exact ha') hrk (by rw [z4]; exact h0) (by rw [z1]; decide) z2
      rw [← hst] at q1 q2 q3 q4 q5
      have hkn2 := q2.2.2.1.2.2.1
      have hRel := Rel_keep hR0 q3 q2
      rcases q4 with ⟨p1, p2, p3⟩ | ⟨p1, p2, p3⟩
      · have hmo := r_apply_1 l K GM AM hM m t a k r4 ht' ha' hk n q1 (p2.1.trans z1) (by rw [p3]; decide) hkn2 hkp h0
        obtain ⟨g1, g2⟩ := q5 p1
        rw [ans_known p3 (hkn2 _) g1, ← g2] at hmo
        exact ⟨65, 3, _, _, _, by decide, by decide, hcl, hmo, hRel⟩
      · have hmo := r_apply_1 l K GM AM hM m t a k r4 ht' ha' hk n q1 p2 (by rw [p3]; decide) hkn2 hkp h0
        rw [show mAns (mIter (mStart m t a k) n) ((mR_standsFor m t * 8 + a) * 16 + k) = (cDo σ.1 σ.2.1 29 σ.2.2 (mR_standsFor m t) a k).1 by unfold mAns; rw [if_neg (by rw [p3]; decide), p1]] at hmo
        exact ⟨65, 3, _, _, _, by decide, by decide, hcl, hmo, hRel⟩
    · have hst : mStart m t a k = mA0 m k := by unfold mStart; rw [if_neg h0]; rfl
      obtain ⟨g1, g2⟩ := do_known (d := 29) hk hf0 hu20 ha8 (by decide) (by rw [z4]; exact h0)
      have hit : mIter (mStart m t a k) 0 = mA0 m k := hst
      have hmo := r_apply_0 l K GM AM hM m t a k r4 ht' ha' hk 0 (fun i hi => absurd hi (Nat.not_lt_zero i)) (by rw [hit]; exact z1) (by rw [hit, z2]; decide) (by rw [hit]; exact hf0.2.2.1.2.2.1) hkp h0
      rw [hit, ans_known z2 (by rw [z4]; exact hkp) (by rw [z4]; exact h0)] at hmo
      have g1' : cDo σ.1 σ.2.1 29 σ.2.2 (mR_standsFor m t) a k = (nI (mR_known (mA0 m k) ((mR_standsFor m t * 8 + a) * 16 + k)) - nI 1, σ.2.2) := g1
      rw [g1'] at hcl
      exact ⟨65, 3, _, _, _, by decide, by decide, hcl, hmo, hR0⟩
  · exact ⟨2, 1, _, _, _, by decide, by decide, k_W_apply_n l K GC AC hC σ x y z hx r5, r_apply_n l K GM AM hM m x y z r4 (fun q => hx ((ask_iff h x y z).mpr q)), h.thrown 0⟩
end OPA
