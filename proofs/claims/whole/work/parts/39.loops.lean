/-! the loops of forgetting, on both sides -/
theorem mAk_known (m : mS) (t a i q : Nat) : mR_known (mAk m t a i) q = if (t * 8 + a) * 16 ≤ q ∧ q < (t * 8 + a) * 16 + i then 0 else mR_known m q := by
  induction i with
  | zero => rw [if_neg (by omega)]; rfl
  | succ i ih =>
    rw [mAk, kn_kn]
    by_cases h : q = (t * 8 + a) * 16 + i
    · rw [h, upN_s, if_pos (by omega)]
    · rw [upN_n h, ih]
      by_cases h2 : (t * 8 + a) * 16 ≤ q ∧ q < (t * 8 + a) * 16 + i
      · rw [if_pos h2, if_pos (by omega)]
      · rw [if_neg h2, if_neg (by omega)]
theorem mAk_rest (m : mS) (t a i : Nat) : mRest (mAk m t a i) m ∧ mR_madeBy (mAk m t a i) = mR_madeBy m := by
  induction i with
  | zero => exact ⟨mRest.rf m, rfl⟩
  | succ i ih => rw [mAk, kn_mb]; exact ⟨(mRest_known _ _).tr ih.1, ih.2⟩
theorem mAm_rest (m : mS) (t a i : Nat) : mRest (mAm m t a i) m ∧ mR_known (mAm m t a i) = mR_known m := by
  induction i with
  | zero => exact ⟨mRest.rf m, rfl⟩
  | succ i ih =>
    rw [mAm]
    split
    · exact ih
    · split
      · rw [mb_known]; exact ⟨(mRest_madeBy _ _).tr ih.1, ih.2⟩
      · exact ih
theorem mAm_made {m : mS} (hm : mMb m) (t a i q : Nat) (ha : a < 8) : (mR_madeBy (mAm m t a i) q = -1 ∧ (10 * t ≤ q ∧ q < 10 * t + i) ∧ ∃ k, k < 16 ∧ mR_madeBy m q = nI (16 * a + k)) ∨ (mR_madeBy (mAm m t a i) q = mR_madeBy m q ∧ ¬ ((10 * t ≤ q ∧ q < 10 * t + i) ∧ ∃ k, k < 16 ∧ mR_madeBy m q = nI (16 * a + k))) := by
  induction i with
  | zero => right; exact ⟨rfl, fun h => by omega⟩
  | succ i ih =>
    have hkeep : mR_madeBy (mAm m t a i) q = mR_madeBy m q → q = 10 * t + i → ¬ (∃ k, k < 16 ∧ mR_madeBy m q = nI (16 * a + k)) → (mR_madeBy (mAm m t a i) q = -1 ∧ (10 * t ≤ q ∧ q < 10 * t + (i + 1)) ∧ ∃ k, k < 16 ∧ mR_madeBy m q = nI (16 * a + k)) ∨ (mR_madeBy (mAm m t a i) q = mR_madeBy m q ∧ ¬ ((10 * t ≤ q ∧ q < 10 * t + (i + 1)) ∧ ∃ k, k < 16 ∧ mR_madeBy m q = nI (16 * a + k))) := fun h1 _ h3 => Or.inr ⟨h1, fun h => h3 h.2⟩
    by_cases hq : q = 10 * t + i
    · have h0 : mR_madeBy (mAm m t a i) q = mR_madeBy m q := by
        rcases ih with ⟨_, h, _⟩ | ⟨h, _⟩
        · omega
        · exact h
      rw [mAm, ← hq, h0]
      by_cases h1 : mR_madeBy m q = -1
      · rw [if_pos h1]
        exact hkeep h0 hq (fun ⟨k, hk, h⟩ => by rw [h1] at h; exact absurd h.symm (nI_ne_m1 (by omega)))
      · rw [if_neg h1]
        obtain ⟨n, hn, h2⟩ := (hm q).resolve_left h1
        rw [h2, nI_clamp (by omega)]
        by_cases h3 : n / 16 = a
        · rw [if_pos h3]
          left
          refine ⟨?_, by omega, n % 16, by omega, by congr 1; omega⟩
          rw [mb_mb, hq, upd_s]
        · rw [if_neg h3]
          have h9 := hkeep h0 hq (fun ⟨k, hk, h⟩ => by
            rw [h2, nI_eq (by omega) (by omega)] at h
            omega)
          rw [h2] at h9
          exact h9
    · have h0 : mR_madeBy (mAm m t a (i + 1)) q = mR_madeBy (mAm m t a i) q := by
        rw [mAm]
        split
        · rfl
        · split
          · rw [mb_mb, upd_n hq]
          · rfl
      rw [h0]
      rcases ih with ⟨g1, g2, g3⟩ | ⟨g1, g2⟩
      · left; exact ⟨g1, by omega, g3⟩
      · right; exact ⟨g1, fun h => g2 ⟨by omega, h.2⟩⟩
theorem aspect_pair {m : mS} (hm : mMb m) {t a : Nat} (ha : a < 8) : Clr t a m (mAm (mAk m t a 16) t a 10) := by
  obtain ⟨r1, r2⟩ := mAk_rest m t a 16
  obtain ⟨r3, r4⟩ := mAm_rest (mAk m t a 16) t a 10
  have hR := r3.tr r1
  refine ⟨hR.1, hR.2.1, hR.2.2.1, hR.2.2.2.1, fun q => ?_, fun q => ?_⟩
  · rw [r4, mAk_known]
    by_cases h : q / 16 = t * 8 + a
    · rw [if_pos h, if_pos (by omega)]
    · rw [if_neg h, if_neg (by omega)]
  · have h := mAm_made (mAk_mb hm t a 16) t a 10 q ha
    rw [r2] at h
    rcases h with ⟨g1, g2, g3⟩ | ⟨g1, g2⟩
    · left; exact ⟨g1, by omega, g3⟩
    · right; exact ⟨g1, fun h => g2 ⟨by omega, h.2⟩⟩
theorem mAo_rest (m : mS) (a i : Nat) : mRest (mAo m a i) m := by
  induction i with
  | zero => exact mRest.rf m
  | succ i ih => rw [mAo]; exact ((mAm_rest _ _ _ _).1.tr (mAk_rest _ _ _ _).1).tr ih
theorem mNl_rest (m : mS) (x : Int32) (i : Nat) : mRest (mNl m x i) m := by
  induction i with
  | zero => exact mRest.rf m
  | succ i ih =>
    rw [mNl]
    split
    · exact (mAo_rest _ _ _).tr ih
    · exact ih
theorem fa_i {τ : cS} {m : mS} {a : Nat} (hnm : cA_names τ = mR_nameOf m) (hd : dRel τ m) (hI : dInv τ m) (ha : a < 8) : ∀ i, i ≤ 20 → dRel (cFAi τ a i) (mAo m a i) ∧ dInv (cFAi τ a i) (mAo m a i) := by
  intro i
  induction i with
  | zero => intro _; exact ⟨hd, hI⟩
  | succ i ih =>
    intro hi
    obtain ⟨h1, h2⟩ := ih (by omega)
    rw [cFAi, mAo]
    exact clear_pair (by rw [(cFAi_same τ a i).nm, hnm, (mAo_rest m a i).1.2.2.2.2.2.2.2.2.1]) h1 h2 (by omega) ha (aspect_pair h2.2.2.2.1 ha)
/-- AN ASPECT GOT A NEED: it and all that need it are forgotten -/
theorem forget_aspects {τ : cS} {m : mS} {n : Nat} {x : Int32} (hnm : cA_names τ = mR_nameOf m) (hd : dRel τ m) (hI : dInv τ m) (hT : cT_opened τ = mR_targets m) (hT20 : mR_targets m ≤ 20) (hA8 : mR_aspects m ≤ 8) (hb : ∀ b, b < mR_aspects m → (cLead (cA_reached τ b) n = 0 ↔ ¬ (x >>> (nI b &&& 31)) &&& nI 1 = nI 1)) : ∀ i, i ≤ mR_aspects m → dRel (cFA τ n i) (mNl m x i) ∧ dInv (cFA τ n i) (mNl m x i) := by
  intro i
  induction i with
  | zero => intro _; exact ⟨hd, hI⟩
  | succ i ih =>
    intro hi
    obtain ⟨h1, h2⟩ := ih (by omega)
    have hsame := cFA_same τ n i
    have hre : cA_reached (cFA τ n i) = cA_reached τ := by unfold cA_reached; rw [hsame.2]
    rw [cFA, mNl, hre]
    have hbi := hb i (by omega)
    by_cases h : cLead (cA_reached τ i) n = 0
    · rw [if_pos h, if_neg (hbi.mp h)]
      exact ⟨h1, h2⟩
    · rw [if_neg h, if_pos (Classical.byContradiction fun q => h (hbi.mpr q)), hT]
      exact fa_i (by rw [hsame.nm, hnm, (mNl_rest m x i).1.2.2.2.2.2.2.2.2.1]) h1 h2 (by omega) _ hT20
/-- whether one is touched, by what was touched before -/
theorem mHi_or (m : mS) (t z h j : Nat) : mHi m t z h j = 0 ↔ h = 0 ∧ ∀ i, i < j → mR_touched m (mU m t z i) = 0 := by
  induction j with
  | zero => exact ⟨fun e => ⟨e, fun i hi => absurd hi (Nat.not_lt_zero i)⟩, fun e => e.1⟩
  | succ j ih =>
    rw [mHi]
    by_cases e : mHi m t z h j = 0
    · rw [if_pos e]
      obtain ⟨e1, e2⟩ := ih.mp e
      constructor
      · intro h1
        refine ⟨e1, fun i hi => ?_⟩
        by_cases e3 : i = j
        · subst e3
          split at h1
          · assumption
          · exact absurd h1 (by decide)
        · exact e2 i (by omega)
      · intro h1
        rw [if_pos (h1.2 j (by omega))]
    · rw [if_neg e]
      constructor
      · intro h1; exact absurd h1 (by decide)
      · intro h1
        exact absurd (ih.mpr ⟨h1.1, fun i hi => h1.2 i (by omega)⟩) e
theorem mHo_or (m : mS) (t j : Nat) : mHo m t j = 0 ↔ ∀ z, z < j → ∀ i, i < mR_rowSize m (3 * t + z) → mR_touched m (mU m t z i) = 0 := by
  induction j with
  | zero => exact ⟨fun _ z hz => absurd hz (Nat.not_lt_zero z), fun _ => rfl⟩
  | succ j ih =>
    rw [mHo, mHi_or, ih]
    constructor
    · intro h z hz i hi
      by_cases e : z = j
      · subst e; exact h.2 i hi
      · exact h.1 z (by omega) i hi
    · intro h
      exact ⟨fun z hz i hi => h z (by omega) i hi, fun i hi => h j (by omega) i hi⟩
/-- what the class says of reaching, of targets -/
def reachT (σ : cS) (m : mS) : Prop := ∀ u, u < mR_targets m → ∀ j, j < 20 → (bt (cT_reached σ u) j = true ↔ mR_standsFor m u = u ∧ (j = u ∨ ∃ z i, z < 3 ∧ i < mR_rowSize m (3 * u + z) ∧ bt (cT_reached σ (mU m u z i)) j = true))
/-- A TARGET CHANGED: all that reach it are forgotten -/
theorem forget_targets {τ : cS} {m : mS} {n : Nat} (hnm : cA_names τ = mR_nameOf m) (hd : dRel τ m) (hI : dInv τ m) (hA : cA_opened τ = mR_aspects m) (hA8 : mR_aspects m ≤ 8) (hT20 : mR_targets m ≤ 20) (hR : reachT τ m) (hL : ∀ u z i, u < mR_targets m → z < 3 → i < mR_rowSize m (3 * u + z) → mU m u z i < u) (hn : n < mR_targets m) (hown : mR_standsFor m n = n) : ∀ i, i ≤ mR_targets m → dRel (cFF τ n i) (mFF m n i) ∧ dInv (cFF τ n i) (mFF m n i) ∧ (∀ v, v < i → mR_touched (mFF m n i) v = cLead (cT_reached τ v) n) := by
  intro i
  induction i with
  | zero => intro _; exact ⟨hd, hI, fun v hv => absurd hv (Nat.not_lt_zero v)⟩
  | succ i ih =>
    intro hi
    obtain ⟨h1, h2, h3⟩ := ih (by omega)
    have hsame := cFF_same τ n i
    have hre : cT_reached (cFF τ n i) = cT_reached τ := by unfold cT_reached; rw [hsame.1]
    have hms := mFF_same m n i
    have htb : mTb (mFF m n i) n i = cLead (cT_reached τ i) n := by
      rw [cLead_bt (by omega)]
      unfold mTb
      rw [hms.2.2.1]
      have hRi := hR i (by omega) n (by omega)
      by_cases e1 : i = n
      · rw [if_pos e1, if_pos (hRi.mpr ⟨by rw [e1]; exact hown, Or.inl e1.symm⟩)]
      · rw [if_neg e1]
        by_cases e2 : mR_standsFor m i = i
        · rw [if_pos e2]
          by_cases e3 : mHo (mFF m n i) i 3 = 0
          · rw [if_pos e3, if_neg]
            intro hb
            obtain ⟨-, hb | ⟨z, q, hz, hq, hb⟩⟩ := hRi.mp hb
            · exact e1 hb.symm
            · have e4 := (mHo_or _ _ _).mp e3 z hz q (by rw [hms.2.2.2.2.1]; exact hq)
              have e5 : mU (mFF m n i) i z q = mU m i z q := by unfold mU; rw [hms.2.2.1, hms.2.2.2.1]
              rw [e5, h3 _ (hL i z q (by omega) hz hq), cLead_0 (by omega), hb] at e4
              exact absurd e4 (by decide)
          · rw [if_neg e3, if_pos]
            apply hRi.mpr
            refine ⟨e2, Or.inr ?_⟩
            apply Classical.byContradiction
            intro hne
            apply e3
            rw [mHo_or]
            intro z hz q hq
            rw [hms.2.2.2.2.1] at hq
            have e5 : mU (mFF m n i) i z q = mU m i z q := by unfold mU; rw [hms.2.2.1, hms.2.2.2.1]
            rw [e5, h3 _ (hL i z q (by omega) hz hq), cLead_0 (by omega)]
            cases e6 : bt (cT_reached τ (mU m i z q)) n with
            | false => rfl
            | true => exact absurd ⟨z, q, hz, hq, e6⟩ hne
        · rw [if_neg e2, if_neg (fun hb => e2 (hRi.mp hb).1)]
    rw [cFF, mFF, hre]
    by_cases h : cLead (cT_reached τ i) n = 0
    · rw [if_pos h, if_pos (by rw [htb]; exact h)]
      obtain ⟨g1, g2⟩ := rel_of h1 h2 (mSame_touched (mFF m n i) (upN (mR_touched (mFF m n i)) i 0)) rfl rfl rfl rfl rfl
      refine ⟨g1, g2, fun v hv => ?_⟩
      show upN (mR_touched (mFF m n i)) i 0 v = _
      by_cases e : v = i
      · rw [e, upN_s, h]
      · rw [upN_n e]; exact h3 v (by omega)
    · have hone : cLead (cT_reached τ i) n = 1 := by have := cLead_le (cT_reached τ i) n; omega
      rw [if_neg h, if_neg (by rw [htb]; exact h)]
      obtain ⟨g1, g2⟩ := rel_of h1 h2 (mSame_touched (mFF m n i) (upN (mR_touched (mFF m n i)) i 1)) rfl rfl rfl rfl rfl
      have htt : mR_touched (p_mR_touched (mFF m n i) (upN (mR_touched (mFF m n i)) i 1)) = upN (mR_touched (mFF m n i)) i 1 := rfl
      have hms2 := (mSame_touched (mFF m n i) (upN (mR_touched (mFF m n i)) i 1)).tr hms
      generalize p_mR_touched (mFF m n i) (upN (mR_touched (mFF m n i)) i 1) = m2 at g1 g2 htt hms2 ⊢
      have hft := forget_target (u := i) (by rw [hsame.nm, hnm, hms2.2.2.2.2.2.2.2.2.1]) g1 g2 (by omega) (by rw [hms2.2.1]; exact hA8)
      rw [hms2.2.1, ← hA] at hft
      refine ⟨hft.1, hft.2, fun v hv => ?_⟩
      rw [(mForgetT_rest m2 i).2.2.2.2, htt]
      by_cases e : v = i
      · rw [e, upN_s, hone]
      · rw [upN_n e]; exact h3 v (by omega)
