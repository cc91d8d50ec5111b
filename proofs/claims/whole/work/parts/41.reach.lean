/-! what reaches what, when a need or a row grows -/
theorem reachA_eff (σ : cS) {n o : Nat} (hn : n < 32) (ho : bt (cA_reached σ o) n = false) : ∀ (i q j : Nat), j < 32 → bt (cA_reached (cReachA σ n o i) q) j = (bt (cA_reached σ q) j || (decide (q < i) && (bt (cA_reached σ q) n && bt (cA_reached σ o) j))) := by
  intro i
  induction i with
  | zero => intro q j hj; simp [cReachA]
  | succ i ih =>
    intro q j hj
    have hin : bt (cA_reached (cReachA σ n o i) i) n = bt (cA_reached σ i) n := by rw [ih i n hn]; simp
    have hoj : ∀ j, j < 32 → bt (cA_reached (cReachA σ n o i) o) j = bt (cA_reached σ o) j := fun j hj => by rw [ih o j hj, ho]; simp
    rw [cReachA]
    by_cases h : cLead (cA_reached (cReachA σ n o i) i) n = 0
    · rw [if_pos h, ih q j hj]
      rw [cLead_0 hn, hin] at h
      by_cases e : q = i
      · subst e
        rw [h]; simp
      · have e2 : (q < i + 1) ↔ q < i := by omega
        simp [e2]
    · rw [if_neg h]
      rw [cLead_0 hn, hin] at h
      have h : bt (cA_reached σ i) n = true := by simpa using h
      show bt (upd (cA_reached (cReachA σ n o i)) i (cA_reached (cReachA σ n o i) i ||| cA_reached (cReachA σ n o i) o) q) j = _
      by_cases e : q = i
      · subst e
        rw [upd_s, b_or, hoj j hj, ih q j hj, h]; simp
      · rw [upd_n e, ih q j hj]
        have e2 : (q < i + 1) ↔ q < i := by omega
        simp [e2]
theorem reachL_eff (σ : cS) {n o : Nat} (hn : n < 32) (ho : bt (cT_reached σ o) n = false) : ∀ (i q j : Nat), j < 32 → bt (cT_reached (cReachL σ n o i) q) j = (bt (cT_reached σ q) j || (decide (q < i) && (bt (cT_reached σ q) n && bt (cT_reached σ o) j))) := by
  intro i
  induction i with
  | zero => intro q j hj; simp [cReachL]
  | succ i ih =>
    intro q j hj
    have hin : bt (cT_reached (cReachL σ n o i) i) n = bt (cT_reached σ i) n := by rw [ih i n hn]; simp
    have hoj : ∀ j, j < 32 → bt (cT_reached (cReachL σ n o i) o) j = bt (cT_reached σ o) j := fun j hj => by rw [ih o j hj, ho]; simp
    rw [cReachL]
    by_cases h : cLead (cT_reached (cReachL σ n o i) i) n = 0
    · rw [if_pos h, ih q j hj]
      rw [cLead_0 hn, hin] at h
      by_cases e : q = i
      · subst e
        rw [h]; simp
      · have e2 : (q < i + 1) ↔ q < i := by omega
        simp [e2]
    · rw [if_neg h]
      rw [cLead_0 hn, hin] at h
      have h : bt (cT_reached σ i) n = true := by simpa using h
      show bt (upd (cT_reached (cReachL σ n o i)) i (cT_reached (cReachL σ n o i) i ||| cT_reached (cReachL σ n o i) o) q) j = _
      by_cases e : q = i
      · subst e
        rw [upd_s, b_or, hoj j hj, ih q j hj, h]; simp
      · rw [upd_n e, ih q j hj]
        have e2 : (q < i + 1) ↔ q < i := by omega
        simp [e2]
/-- a need more -/
theorem reachA_need {R R' : Nat → Int32} {m m' : mS} (hA8 : mR_aspects m ≤ 8) (h : reachA R m) {n o : Nat} (hn : n < mR_aspects m) (ho : o < mR_aspects m) (hno : bt (R o) n = false) (hA : mR_aspects m' = mR_aspects m) (hM : ∀ a, mR_needMany m' a = if a = n then mR_needMany m n + 1 else mR_needMany m a) (hN : ∀ a i, a < mR_aspects m → i < mR_needMany m a → mR_needs m' (3 * a + i) = mR_needs m (3 * a + i)) (hL : mR_needs m' (3 * n + mR_needMany m n) = o) (hR : ∀ q j, q < mR_aspects m → j < 8 → bt (R' q) j = (bt (R q) j || (bt (R q) n && bt (R o) j))) : reachA R' m' := by
  have hnn : bt (R n) n = true := (h.1 n hn n (by omega)).mpr (Or.inl rfl)
  have hRo : ∀ j, j < 8 → bt (R' o) j = bt (R o) j := fun j hj => by rw [hR o j ho hj, hno]; simp
  constructor
  · intro a ha j hj
    rw [hA] at ha
    rw [hR a j ha hj, hM a]
    by_cases e : a = n
    · subst e
      rw [if_pos rfl, hnn, Bool.true_and, Bool.or_eq_true]
      constructor
      · intro g
        rcases g with g | g
        · rcases (h.1 a ha j hj).mp g with g | ⟨i, hi, g⟩
          · exact Or.inl g
          · refine Or.inr ⟨i, by omega, ?_⟩
            rw [hN a i ha hi, hR _ j (h.2 a i ha hi).1 hj, g]
            rfl
        · refine Or.inr ⟨mR_needMany m a, by omega, ?_⟩
          rw [hL, hRo j hj]
          exact g
      · intro g
        rcases g with g | ⟨i, hi, g⟩
        · exact Or.inl ((h.1 a ha j hj).mpr (Or.inl g))
        · by_cases e2 : i = mR_needMany m a
          · rw [e2, hL, hRo j hj] at g
            exact Or.inr g
          · have hi' : i < mR_needMany m a := by omega
            obtain ⟨c1, c2⟩ := h.2 a i ha hi'
            rw [hN a i ha hi', hR _ j c1 hj, c2] at g
            exact Or.inl ((h.1 a ha j hj).mpr (Or.inr ⟨i, hi', by simpa using g⟩))
    · rw [if_neg e, Bool.or_eq_true, Bool.and_eq_true]
      constructor
      · intro g
        rcases g with g | ⟨g1, g2⟩
        · rcases (h.1 a ha j hj).mp g with g | ⟨i, hi, g⟩
          · exact Or.inl g
          · refine Or.inr ⟨i, hi, ?_⟩
            rw [hN a i ha hi, hR _ j (h.2 a i ha hi).1 hj, g]
            rfl
        · rcases (h.1 a ha n (by omega)).mp g1 with g | ⟨i, hi, g⟩
          · exact absurd g.symm e
          · refine Or.inr ⟨i, hi, ?_⟩
            rw [hN a i ha hi, hR _ j (h.2 a i ha hi).1 hj, g, g2]
            simp
      · intro g
        rcases g with g | ⟨i, hi, g⟩
        · exact Or.inl ((h.1 a ha j hj).mpr (Or.inl g))
        · rw [hN a i ha hi, hR _ j (h.2 a i ha hi).1 hj, Bool.or_eq_true, Bool.and_eq_true] at g
          rcases g with g | ⟨g1, g2⟩
          · exact Or.inl ((h.1 a ha j hj).mpr (Or.inr ⟨i, hi, g⟩))
          · exact Or.inr ⟨(h.1 a ha n (by omega)).mpr (Or.inr ⟨i, hi, g1⟩), g2⟩
  · intro a i ha hi
    rw [hA] at ha ⊢
    rw [hM a] at hi
    by_cases e : a = n
    · subst e
      rw [if_pos rfl] at hi
      by_cases e2 : i = mR_needMany m a
      · rw [e2, hL, hRo a (by omega)]
        exact ⟨ho, hno⟩
      · have hi' : i < mR_needMany m a := by omega
        obtain ⟨c1, c2⟩ := h.2 a i ha hi'
        rw [hN a i ha hi', hR _ a c1 (by omega), c2]
        exact ⟨c1, by simp⟩
    · rw [if_neg e] at hi
      obtain ⟨c1, c2⟩ := h.2 a i ha hi
      rw [hN a i ha hi, hR _ a c1 (by omega), c2]
      refine ⟨c1, ?_⟩
      rw [Bool.false_or]
      cases g1 : bt (R (mR_needs m (3 * a + i))) n with
      | false => rfl
      | true =>
        cases g2 : bt (R o) a with
        | false => rfl
        | true =>
          have g3 : bt (R a) n = true := (h.1 a ha n (by omega)).mpr (Or.inr ⟨i, hi, g1⟩)
          rw [reach_tr hA8 h 8 o a n (pcB_top _ _) ho ha (by omega) g2 g3] at hno
          exact absurd hno (by decide)
/-- nothing reaches what has a greater number -/
theorem reachT_le {σ : cS} {m : mS} (h : reachT σ m) (hL : ∀ u z i, u < mR_targets m → z < 3 → i < mR_rowSize m (3 * u + z) → mU m u z i < u) : ∀ (n u j : Nat), u ≤ n → u < mR_targets m → j < 20 → bt (cT_reached σ u) j = true → j ≤ u := by
  intro n
  induction n with
  | zero =>
    intro u j hu hut hj hb
    rcases ((h u hut j hj).mp hb).2 with e | ⟨z, i, hz, hi, _⟩
    · omega
    · have := hL u z i hut hz hi; omega
  | succ n ih =>
    intro u j hu hut hj hb
    rcases ((h u hut j hj).mp hb).2 with e | ⟨z, i, hz, hi, hb2⟩
    · omega
    · have h1 := hL u z i hut hz hi
      have h2 := ih _ j (by omega) (by omega) hj hb2
      omega
/-- a row grows -/
theorem reachT_add {σ σ' : cS} {m m' : mS} (hT20 : mR_targets m ≤ 20) (h : reachT σ m) (hL : ∀ u z i, u < mR_targets m → z < 3 → i < mR_rowSize m (3 * u + z) → mU m u z i < u) {n w o : Nat} (hn : n < mR_targets m) (hon : o < n) (hw : w < 3) (hown : mR_standsFor m n = n) (hT : mR_targets m' = mR_targets m) (hS : mR_standsFor m' = mR_standsFor m) (hM : ∀ u z, u < mR_targets m → z < 3 → mR_rowSize m' (3 * u + z) = if u = n ∧ z = w then mR_rowSize m (3 * n + w) + 1 else mR_rowSize m (3 * u + z)) (hU : ∀ u z i, u < mR_targets m → z < 3 → i < mR_rowSize m (3 * u + z) → mU m' u z i = mU m u z i) (hO : mU m' n w (mR_rowSize m (3 * n + w)) = o) (hR : ∀ q j, q < mR_targets m → j < 20 → bt (cT_reached σ' q) j = (bt (cT_reached σ q) j || (bt (cT_reached σ q) n && bt (cT_reached σ o) j))) : reachT σ' m' := by
  have hnn : bt (cT_reached σ n) n = true := (h n hn n (by omega)).mpr ⟨hown, Or.inl rfl⟩
  have hno : bt (cT_reached σ o) n = false := by
    cases e : bt (cT_reached σ o) n with
    | false => rfl
    | true => have := reachT_le h hL o o n (Nat.le_refl _) (by omega) (by omega) e; omega
  have hRo : ∀ j, j < 20 → bt (cT_reached σ' o) j = bt (cT_reached σ o) j := fun j hj => by rw [hR o j (by omega) hj, hno]; simp
  intro u hu j hj
  rw [hT] at hu
  rw [hS, hR u j hu hj, Bool.or_eq_true, Bool.and_eq_true]
  have old := h u hu j hj
  have oldn := h u hu n (by omega)
  constructor
  · intro g
    rcases g with g | ⟨g1, g2⟩
    · obtain ⟨e1, e2⟩ := old.mp g
      refine ⟨e1, ?_⟩
      rcases e2 with e2 | ⟨z, i, hz, hi, e2⟩
      · exact Or.inl e2
      · refine Or.inr ⟨z, i, hz, ?_, ?_⟩
        · rw [hM u z hu hz]; split
          · rename_i hh; rw [hh.1, hh.2] at hi; omega
          · exact hi
        · rw [hU u z i hu hz hi, hR _ j (by have := hL u z i hu hz hi; omega) hj, e2]; rfl
    · obtain ⟨e1, e2⟩ := oldn.mp g1
      refine ⟨e1, ?_⟩
      rcases e2 with e2 | ⟨z, i, hz, hi, e2⟩
      · subst e2
        refine Or.inr ⟨w, mR_rowSize m (3 * n + w), hw, ?_, ?_⟩
        · rw [hM n w hu hw, if_pos ⟨rfl, rfl⟩]; omega
        · rw [hO, hRo j hj]; exact g2
      · refine Or.inr ⟨z, i, hz, ?_, ?_⟩
        · rw [hM u z hu hz]; split
          · rename_i hh; rw [hh.1, hh.2] at hi; omega
          · exact hi
        · rw [hU u z i hu hz hi, hR _ j (by have := hL u z i hu hz hi; omega) hj, e2, g2]; simp
  · intro ⟨e1, g⟩
    rcases g with g | ⟨z, i, hz, hi, g⟩
    · exact Or.inl (old.mpr ⟨e1, Or.inl g⟩)
    · by_cases hx : i < mR_rowSize m (3 * u + z)
      · rw [hU u z i hu hz hx, hR _ j (by have := hL u z i hu hz hx; omega) hj, Bool.or_eq_true, Bool.and_eq_true] at g
        rcases g with g | ⟨g1, g2⟩
        · exact Or.inl (old.mpr ⟨e1, Or.inr ⟨z, i, hz, hx, g⟩⟩)
        · exact Or.inr ⟨oldn.mpr ⟨e1, Or.inr ⟨z, i, hz, hx, g1⟩⟩, g2⟩
      · rw [hM u z hu hz] at hi
        split at hi
        · rename_i hh
          obtain ⟨rfl, rfl⟩ := hh
          rw [show i = mR_rowSize m (3 * u + z) by omega, hO, hRo j hj] at g
          exact Or.inr ⟨hnn, g⟩
        · exact absurd hi hx
