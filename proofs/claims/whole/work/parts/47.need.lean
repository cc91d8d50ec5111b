/-! need -/
theorem cReachA_form (σ : cS) (n o i : Nat) : ∃ R, cReachA σ n o i = p_cA_reached σ R := by
  induction i with
  | zero => exact ⟨cA_reached σ, rfl⟩
  | succ i ih =>
    obtain ⟨R, h⟩ := ih
    rw [cReachA]
    split
    · exact ⟨R, h⟩
    · rw [h]; exact ⟨_, rfl⟩
theorem direct_ex (σ : cS) (n o : Nat) : ∀ j, cDirect σ n o j = true ↔ ∃ i, i < j ∧ cA_needs σ (n * 3 + i) = o := by
  intro j
  induction j with
  | zero => exact ⟨fun h => absurd (show false = true from h) (by decide), fun ⟨i, hi, _⟩ => absurd hi (Nat.not_lt_zero i)⟩
  | succ j ih =>
    rw [cDirect, Bool.or_eq_true, ih, decide_eq_true_eq]
    constructor
    · intro h
      rcases h with ⟨i, hi, e⟩ | e
      · exact ⟨i, by omega, e⟩
      · exact ⟨j, by omega, e⟩
    · intro ⟨i, hi, e⟩
      by_cases q : i = j
      · subst q; exact Or.inr e
      · exact Or.inl ⟨i, by omega, e⟩
theorem direct_iff {σ : cS} {m : mS} (h : Rel σ m) (n o : Nat) : cDirect σ n o (cA_needCounts σ n) = false ↔ mHN m n o = 0 := by
  obtain ⟨⟨s1, s2, s3, s4, s5, s6, s7, s8, s9, s10, s11, s12, s13, s14⟩, -⟩ := h
  have h1 := direct_ex σ n o (cA_needCounts σ n)
  have h2 := mHN_or m n o
  rw [s13, s14] at h1
  rw [s14]
  constructor
  · intro e
    exact Classical.byContradiction fun q => by
      obtain ⟨i, hi, g⟩ := h2.mp q
      rw [h1.mpr ⟨i, hi, by rw [Nat.mul_comm n 3]; exact g⟩] at e
      exact absurd e (by decide)
  · intro e
    cases g : cDirect σ n o (mR_needMany m n) with
    | false => rfl
    | true =>
      obtain ⟨i, hi, q⟩ := h1.mp g
      exact absurd e (h2.mpr ⟨i, hi, by rw [Nat.mul_comm 3 n]; exact q⟩)
theorem rel_need {σ : cS} {m : mS} (h : Rel σ m) {n o : Nat} (hn : n < mR_aspects m) (ho : o < mR_aspects m) (h3 : mR_needMany m n < 3) (hno : bt (cA_reached σ o) n = false) : Rel (cAppendNeed σ n o) (mNeed0 m n o) ∧ ∀ b, b < mR_aspects m → bt (cA_reached (cAppendNeed σ n o) b) n = bt (cA_reached σ b) n := by
  obtain ⟨r1, r2, r3, r4, r5, r6, r7, r8, r9⟩ := id h
  obtain ⟨s1, s2, s3, s4, s5, s6, s7, s8, s9, s10, s11, s12, s13, s14⟩ := r1
  obtain ⟨e1, e2, e3, e4, e5⟩ := r8
  have hA8 := r4.2.1
  obtain ⟨R, hR⟩ := cReachA_form (cAppendNeed0 σ n o) n o (cA_opened σ)
  have heff : ∀ q j, q < mR_aspects m → j < 8 → bt (R q) j = (bt (cA_reached σ q) j || (bt (cA_reached σ q) n && bt (cA_reached σ o) j)) := fun q j hq hj => by
    have h1 := reachA_eff (cAppendNeed0 σ n o) (n := n) (o := o) (by omega) hno (cA_opened σ) q j (by omega)
    rw [hR] at h1
    have h2 : decide (q < cA_opened σ) = true := decide_eq_true (by omega)
    rw [h2, Bool.true_and] at h1
    exact h1
  have hF : cAppendNeed σ n o = p_cA_reached (cAppendNeed0 σ n o) R := hR
  rw [hF]
  have hne : mR_needs (mNeed0 m n o) = upN (mR_needs m) (3 * n + mR_needMany m n) o := mNeed0_needs m n o
  have hnm : mR_needMany (mNeed0 m n o) = upN (mR_needMany m) n (mR_needMany m n + 1) := mNeed0_needMany m n o
  refine ⟨⟨⟨?_, ?_, ?_, ?_, ?_, ?_, ?_, ?_, ?_, ?_, ?_, ?_, ?_, ?_⟩, ?_, ⟨?_, ?_, ?_, ?_, ?_, r3.2.2.2.2.2⟩, ⟨?_, ?_, ?_, ?_, ?_, ?_, ?_, ?_, ?_⟩, ⟨r5.1, r5.2.1, r5.2.2.1, r5.2.2.2.1, r5.2.2.2.2.1, ?_, ?_, r5.2.2.2.2.2.2.2.1, r5.2.2.2.2.2.2.2.2⟩, ?_, ?_, ⟨?_, ?_, ?_, ?_, ?_⟩, r9⟩, ?_⟩
  · show cT_opened σ = _; rw [mNeed0_targets, s1]
  · show cT_ends σ = _; rw [mNeed0_standsFor, s2]
  · show cT_values σ = _; rw [mNeed0_value, s3]
  · show cT_providers σ = _; rw [mNeed0_providers, s4]
  · show cT_rowLengths σ = _; rw [mNeed0_rowSize, s5]
  · intro t z i ht hz hi
    rw [mNeed0_rowSize] at hi
    show cT_rows σ _ = mR_standsFor (mNeed0 m n o) (mR_row (mNeed0 m n o) _)
    rw [mNeed0_standsFor, mNeed0_row]
    exact s6 t z i ht hz hi
  · show cA_opened σ = _; rw [mNeed0_aspects, s7]
  · show cA_kinds σ = _; rw [mNeed0_kind, s8]
  · show cA_alongs σ = _; rw [mNeed0_along, s9]
  · show cA_wants σ = _; rw [mNeed0_wants, s10]
  · show cA_gives σ = _; rw [mNeed0_gives, s11]
  · show cA_names σ = _; rw [mNeed0_nameOf, s12]
  · show upN (cA_needs σ) (n * 3 + cA_needCounts σ n) o = _; rw [hne, s13, s14, Nat.mul_comm n 3]
  · show upN (cA_needCounts σ) n (cA_needCounts σ n + 1) = _; rw [hnm, s14]
  · exact dRel_of (σ := σ) r2 (mNeed0_known m n o) (mNeed0_results m n o) (mNeed0_times m n o) (mNeed0_clashTold m n o) (mNeed0_madeBy m n o)
  · rw [mNeed0_known, mNeed0_targets, mNeed0_aspects]; exact r3.1
  · rw [mNeed0_madeBy, mNeed0_nameOf, mNeed0_known]; exact r3.2.1
  · rw [mNeed0_known]; exact r3.2.2.1
  · intro q; rw [mNeed0_madeBy]; exact r3.2.2.2.1 q
  · rw [mNeed0_known]; exact r3.2.2.2.2.1
  · rw [mNeed0_targets]; exact r4.1
  · rw [mNeed0_aspects]; exact hA8
  · rw [mNeed0_standsFor]; exact r4.2.2.1
  · rw [mNeed0_row]; exact r4.2.2.2.1
  · rw [mNeed0_rowSize]; exact r4.2.2.2.2.1
  · intro q
    rw [hne]
    by_cases e : q = 3 * n + mR_needMany m n
    · rw [e, upN_s]; omega
    · rw [upN_n e]; exact r4.2.2.2.2.2.1 q
  · intro q
    rw [hnm]
    by_cases e : q = n
    · rw [e, upN_s]; omega
    · rw [upN_n e]; exact r4.2.2.2.2.2.2.1 q
  · rw [mNeed0_kind]; exact r4.2.2.2.2.2.2.2.1
  · rw [mNeed0_nameOf]; exact r4.2.2.2.2.2.2.2.2
  · intro q
    show upN (cA_needs σ) (n * 3 + cA_needCounts σ n) o q < 8
    by_cases e : q = n * 3 + cA_needCounts σ n
    · rw [e, upN_s]; omega
    · rw [upN_n e]; exact r5.2.2.2.2.2.1 q
  · intro q
    show upN (cA_needCounts σ) n (cA_needCounts σ n + 1) q ≤ 3
    by_cases e : q = n
    · rw [e, upN_s, s14]; omega
    · rw [upN_n e]; exact r5.2.2.2.2.2.2.1 q
  · show reachT σ (mNeed0 m n o)
    unfold reachT mU
    rw [mNeed0_targets, mNeed0_standsFor, mNeed0_row, mNeed0_rowSize]
    exact r6
  · show reachA R (mNeed0 m n o)
    refine reachA_need hA8 r7 hn ho hno (mNeed0_aspects m n o) ?_ ?_ ?_ heff
    · intro a
      rw [hnm]
      by_cases e : a = n
      · rw [e, upN_s, if_pos rfl]
      · rw [upN_n e, if_neg e]
    · intro a i ha hi
      have h4 := r4.2.2.2.2.2.2.1 a
      rw [hne, upN_n]
      intro e
      have e' : a = n := by omega
      subst e'
      omega
    · rw [hne, upN_s]
  · rw [mNeed0_touched]; exact e1
  · rw [mNeed0_targets, mNeed0_standsFor]; exact e2
  · rw [mNeed0_targets, mNeed0_rowSize, mNeed0_row]; exact e3
  · rw [mNeed0_targets, mNeed0_rowSize]; exact e4
  · intro a ha
    rw [mNeed0_aspects] at ha
    rw [hnm, upN_n (by omega)]
    exact e5 a ha
  · intro b hb
    show bt (R b) n = _
    rw [heff b n hb (by omega), hno]
    simp
theorem rel_forgetA {σ : cS} {m : mS} (h : Rel σ m) {n : Nat} {x : Int32} (hb : ∀ b, b < mR_aspects m → (cLead (cA_reached σ b) n = 0 ↔ ¬ (x >>> (nI b &&& 31)) &&& nI 1 = nI 1)) : Rel (cFA σ n (cA_opened σ)) (mNl m x (mR_aspects m)) := by
  obtain ⟨r1, r2, r3, r4, r5, r6, r7, r8, r9⟩ := id h
  have hf := forget_aspects (n := n) r1.2.2.2.2.2.2.2.2.2.2.2.1 r2 r3 r1.1 r4.1 r4.2.1 hb (mR_aspects m) (Nat.le_refl _)
  have hs := cFA_same σ n (mR_aspects m)
  have hm := mNl_rest m x (mR_aspects m)
  rw [r1.2.2.2.2.2.2.1]
  obtain ⟨f1, f2⟩ := hf
  have hre : cT_reached (cFA σ n (mR_aspects m)) = cT_reached σ := by unfold cT_reached; rw [hs.1]
  have hra : cA_reached (cFA σ n (mR_aspects m)) = cA_reached σ := by unfold cA_reached; rw [hs.2]
  refine ⟨sRel_same hm.1 (sRel_cs hs r1), f1, f2, mB_same hm.1 r4, cB_same hs r5, ?_, ?_, eInv_same hm.1 hm.2.2.2.2 r8, ?_⟩
  · have h1 := reachT_same hm.1 r6
    unfold reachT at h1 ⊢
    rw [hre]; exact h1
  · rw [hra]; exact reachA_same hm.1 r7
  · rw [hs.oT, hre]; exact r9
section OPN
variable {l : Launch} {K : zK} {GC : Nat → Nat} {AC : Nat → Prop} {GM : Nat → Nat} {AM : Nat → Prop} {σ : cS} {m : mS}
theorem op_need (hC : ∀ σ, va_D AC (cW K GC σ)) (hM : ∀ σ, va_D AM (mW K GM σ)) (h : Rel σ m) (x y : Int32) : Op l K GC AC GM AM σ m zy_W_need zws_W_need zy_R_need zws_R_need [.int x, .int y] := by
  obtain ⟨r1, r2, r3, r4, r5, r6, r7, r8, r9⟩ := id h
  have sA := r1.2.2.2.2.2.2.1
  have sN := r1.2.2.2.2.2.2.2.2.2.2.2.2.2
  have hA8 := r4.2.1
  by_cases hx : ∃ n o, n < cA_opened σ ∧ x = nI n ∧ o < cA_opened σ ∧ y = nI o ∧ cDirect σ n o (cA_needCounts σ n) = false ∧ cA_needCounts σ n < 3
  · obtain ⟨n, o, hn, rfl, ho, rfl, hd, h3⟩ := hx
    have hn' : n < mR_aspects m := by omega
    have ho' : o < mR_aspects m := by omega
    have hd' := (direct_iff h n o).mp hd
    have h3' : mR_needMany m n < 3 := by rw [← sN]; exact h3
    have hbo := bits_ok hA8 r7 hn' ho'
    cases hr : bt (cA_reached σ o) n with
    | true =>
      have hl : ¬ cLead (cA_reached σ o) n = 0 := fun q => by rw [cLead_0 (by omega), hr] at q; exact absurd q (by decide)
      exact ⟨2, 2, _, _, _, by decide, by decide, k_W_need_r l K GC AC hC σ n o hn ho hd h3 hl r5, r_need_r l K GM AM hM m n o r4 hn' ho' hd' h3' ((z_bitk (by omega) _).mpr (hbo.mpr hr)), h.thrown 0⟩
    | false =>
      have hl : cLead (cA_reached σ o) n = 0 := (cLead_0 (by omega) _).mpr hr
      obtain ⟨hRel, hbn⟩ := rel_need h hn' ho' h3' hr
      have hF := rel_forgetA hRel (n := n) (x := mBits m n) (fun b hb => by
        rw [mNeed0_aspects] at hb
        rw [cLead_0 (by omega), hbn b hb, z_bitk (by omega), bits_ok hA8 r7 hn' hb]
        simp)
      rw [mNeed0_aspects] at hF
      exact ⟨3, 2, _, _, _, by decide, by decide, k_W_need_1 l K GC AC hC σ n o hn ho hd h3 hl hRel.2.2.2.2.1 r5, r_need_1 l K GM AM hM m n o r4 hn' ho' hd' h3' (fun q => by have q2 := hbo.mp ((z_bitk (by omega) _).mp q); rw [hr] at q2; exact absurd q2 (by decide)) hRel.2.2.2.1 r3.2.2.2.1, hF⟩
  · refine ⟨2, 2, _, _, _, by decide, by decide, k_W_need_bad l K GC AC hC σ x y hx r5, r_need_bad l K GM AM hM m x y r4 ?_, h.thrown 0⟩
    rintro ⟨n, o, hn, e1, ho, e2, hd, h3⟩
    exact hx ⟨n, o, by omega, e1, by omega, e2, (direct_iff h n o).mpr hd, by rw [sN]; exact h3⟩
end OPN
