/-! forgetting a target's aspect keeps the relation -/
/-- m' is m with all of (u, a) forgotten -/
def Clr (u a : Nat) (m m' : mS) : Prop := mSame m' m ∧ mR_results m' = mR_results m ∧ mR_times m' = mR_times m ∧ mR_clashTold m' = mR_clashTold m ∧ (∀ q, mR_known m' q = if q / 16 = u * 8 + a then 0 else mR_known m q) ∧ (∀ q, (mR_madeBy m' q = -1 ∧ q / 10 = u ∧ ∃ k, k < 16 ∧ mR_madeBy m q = nI (16 * a + k)) ∨ (mR_madeBy m' q = mR_madeBy m q ∧ ¬ (q / 10 = u ∧ ∃ k, k < 16 ∧ mR_madeBy m q = nI (16 * a + k))))
theorem zCnt_blk {f g : Nat → Nat} {p : Nat} (h : ∀ q, g q = if q / 16 = p then 0 else f q) {x : Int32} (hx : ∀ k, k < 16 → (f (p * 16 + k) = 2 ↔ bt x k = true)) : (∀ n, n ≤ p * 16 → zCnt g n = zCnt f n) ∧ (∀ j, j ≤ 16 → zCnt f (p * 16 + j) = zCnt g (p * 16 + j) + pcB x j) ∧ (∀ j, zCnt f (p * 16 + 16 + j) = zCnt g (p * 16 + 16 + j) + pcB x 16) := by
  have h1 : ∀ n, n ≤ p * 16 → zCnt g n = zCnt f n := by
    intro n
    induction n with
    | zero => intro _; rfl
    | succ n ih =>
      intro hn
      rw [zCnt, zCnt, ih (by omega), h n, if_neg (show ¬ n / 16 = p by omega)]
  have h2 : ∀ j, j ≤ 16 → zCnt f (p * 16 + j) = zCnt g (p * 16 + j) + pcB x j := by
    intro j
    induction j with
    | zero => intro _; rw [Nat.add_zero, h1 _ (Nat.le_refl _)]; rfl
    | succ j ih =>
      intro hj
      rw [← Nat.add_assoc, zCnt, zCnt, ih (by omega), pcB, h (p * 16 + j), if_pos (show (p * 16 + j) / 16 = p by omega), if_neg (show ¬ (0 : Nat) = 2 by decide)]
      by_cases e : bt x j = true
      · rw [if_pos ((hx j (by omega)).mpr e), if_pos e]; omega
      · rw [if_neg (fun q => e ((hx j (by omega)).mp q)), if_neg e]; omega
  refine ⟨h1, h2, ?_⟩
  intro j
  induction j with
  | zero => exact h2 16 (Nat.le_refl _)
  | succ j ih =>
    rw [← Nat.add_assoc, zCnt, zCnt, ih, h (p * 16 + 16 + j), if_neg (show ¬ (p * 16 + 16 + j) / 16 = p by omega)]
    omega
theorem st_2 (σ : cS) (t a k : Nat) : cSt σ t a k = 2 ↔ bt (cM_doneSettings σ (t * 8 + a)) k = true := by
  unfold cSt
  constructor
  · intro h
    split at h
    · assumption
    · split at h <;> exact absurd h (by decide)
  · intro h
    rw [if_pos h]
theorem forget_parts (τ : cS) (u a : Nat) (nm : Int32) : cM_doneSettings (cForget τ u a nm) = upd (cM_doneSettings τ) (u * 8 + a) (nI 0) ∧ cM_passedSettings (cForget τ u a nm) = upd (cM_passedSettings τ) (u * 8 + a) (nI 0) ∧ cM_nowDone (cForget τ u a nm) = cM_nowDone τ - cBit (cM_doneSettings τ (u * 8 + a)) ∧ cM_results (cForget τ u a nm) = cM_results τ ∧ cM_doneTimes (cForget τ u a nm) = cM_doneTimes τ ∧ cM_makerSettings (cForget τ u a nm) = cM_makerSettings τ ∧ cW_clash (cForget τ u a nm) = cW_clash τ := by
  unfold cForget cForgetQ
  split
  · exact ⟨rfl, rfl, rfl, rfl, rfl, rfl, rfl⟩
  · split
    · exact ⟨rfl, rfl, rfl, rfl, rfl, rfl, rfl⟩
    · exact ⟨rfl, rfl, rfl, rfl, rfl, rfl, rfl⟩
theorem forget_makers (τ : cS) (u a : Nat) (nm : Int32) (x : Nat) : (cM_makers (cForget τ u a nm) x = -1 ∧ ¬ nm = -1 ∧ x = u * 10 + nm.toNatClampNeg ∧ cM_makers τ x = nI a) ∨ (cM_makers (cForget τ u a nm) x = cM_makers τ x ∧ ¬ (¬ nm = -1 ∧ x = u * 10 + nm.toNatClampNeg ∧ cM_makers τ x = nI a)) := by
  unfold cForget cForgetQ
  by_cases h1 : nm = -1
  · rw [if_pos h1]
    exact Or.inr ⟨rfl, fun h => h.1 h1⟩
  · rw [if_neg h1]
    by_cases h2 : cM_makers τ (u * 10 + nm.toNatClampNeg) = nI a
    · rw [if_pos h2]
      by_cases h3 : x = u * 10 + nm.toNatClampNeg
      · left
        refine ⟨?_, h1, h3, by rw [h3]; exact h2⟩
        show upd (cM_makers τ) (u * 10 + nm.toNatClampNeg) (-1) x = -1
        rw [h3, upd_s]
      · right
        refine ⟨?_, fun h => h3 h.2.1⟩
        show upd (cM_makers τ) (u * 10 + nm.toNatClampNeg) (-1) x = _
        rw [upd_n h3]
    · rw [if_neg h2]
      right
      exact ⟨rfl, fun h => h2 (by rw [← h.2.1]; exact h.2.2)⟩
theorem clear_pair {τ : cS} {m m' : mS} {u a : Nat} (hnm : cA_names τ a = mR_nameOf m a) (hd : dRel τ m) (hI : dInv τ m) (hu : u < 20) (ha : a < 8) (hC : Clr u a m m') : dRel (cForget τ u a (cA_names τ a)) m' ∧ dInv (cForget τ u a (cA_names τ a)) m' := by
  obtain ⟨c1, c2, c3, c4, c5, c6⟩ := hC
  obtain ⟨d1, d2, d3, d4, d5⟩ := hd
  obtain ⟨i1, i2, i3, i4, i5, i6⟩ := hI
  obtain ⟨f1, f2, f3, f4, f5, f6, f7⟩ := forget_parts τ u a (cA_names τ a)
  have hmk := forget_makers τ u a (cA_names τ a)
  generalize cForget τ u a (cA_names τ a) = τ' at *
  have kn : ∀ t' a' k', t' < 20 → a' < 8 → k' < 16 → mR_known m' ((t' * 8 + a') * 16 + k') = cSt τ' t' a' k' := by
    intro t' a' k' ht' ha' hk'
    rw [c5, show ((t' * 8 + a') * 16 + k') / 16 = t' * 8 + a' by omega]
    unfold cSt
    rw [f1, f2]
    by_cases e : t' * 8 + a' = u * 8 + a
    · rw [if_pos e, e, upd_s, upd_s, bt_nI0]
      rfl
    · rw [if_neg e, upd_n e, upd_n e]
      exact d1 t' a' k' ht' ha' hk'
  have mk2 : ∀ t' n', t' < 20 → n' < 10 → (cM_makers τ' (t' * 10 + n') = -1 ∧ mR_madeBy m' (10 * t' + n') = -1) ∨ ∃ a k, a < 8 ∧ k < 16 ∧ cM_makers τ' (t' * 10 + n') = nI a ∧ cM_makerSettings τ' (t' * 10 + n') = k ∧ mR_madeBy m' (10 * t' + n') = nI (16 * a + k) := by
    intro t' n' ht' hn'
    rcases d5 t' n' ht' hn' with ⟨e1, e2⟩ | ⟨a1, k1, ha1, hk1, e1, e2, e3⟩
    · left
      constructor
      · rcases hmk (t' * 10 + n') with g | g
        · exact g.1
        · rw [g.1]; exact e1
      · rcases c6 (10 * t' + n') with g | g
        · exact g.1
        · rw [g.1]; exact e2
    · have hn1 := (i2 t' n' a1 k1 ht' hn' ha1 hk1 e3).1
      by_cases e : t' = u ∧ a1 = a
      · left
        obtain ⟨rfl, rfl⟩ := e
        have hnn : cA_names τ a1 = nI n' := hnm.trans hn1
        constructor
        · rcases hmk (t' * 10 + n') with g | g
          · exact g.1
          · exact absurd ⟨by rw [hnn]; exact nI_ne_m1 (by omega), by rw [hnn, nI_clamp (by omega)], e1⟩ g.2
        · rcases c6 (10 * t' + n') with g | g
          · exact g.1
          · exact absurd ⟨by omega, k1, hk1, e3⟩ g.2
      · right
        refine ⟨a1, k1, ha1, hk1, ?_, by rw [f6]; exact e2, ?_⟩
        · rcases hmk (t' * 10 + n') with g | g
          · exfalso
            have g4 := g.2.2.2
            rw [e1, nI_eq (by omega) (by omega)] at g4
            subst g4
            have hnn : cA_names τ a1 = nI n' := hnm.trans hn1
            have g3 := g.2.2.1
            rw [hnn, nI_clamp (by omega)] at g3
            exact e ⟨by omega, rfl⟩
          · rw [g.1]; exact e1
        · rcases c6 (10 * t' + n') with g | g
          · exfalso
            obtain ⟨_, g2, k2, hk2, g3⟩ := g
            rw [e3, nI_eq (by omega) (by omega)] at g3
            exact e ⟨by omega, by omega⟩
          · rw [g.1]; exact e3
  refine ⟨⟨kn, by rw [f4, c2]; exact d2, by rw [f5, c3]; exact d3, by rw [f7, c4]; exact d4, mk2⟩, ⟨?_, ?_, ?_, ?_, ?_, ?_⟩⟩
  · intro t' a' k' ht' ha' hk' hne
    rw [c5] at hne
    rw [c1.1, c1.2.1]
    split at hne
    · exact absurd rfl hne
    · exact i1 t' a' k' ht' ha' hk' hne
  · intro t' n' a' k' ht' hn' ha' hk' e
    rcases c6 (10 * t' + n') with g | g
    · rw [g.1] at e
      exact absurd e.symm (nI_ne_m1 (by omega))
    · rw [g.1] at e
      obtain ⟨e1, e2⟩ := i2 t' n' a' k' ht' hn' ha' hk' e
      refine ⟨by rw [c1.2.2.2.2.2.2.2.2.1]; exact e1, ?_⟩
      rw [c5, if_neg, e2]
      intro q
      exact g.2 ⟨by omega, k', hk', by rw [e]; congr 1; omega⟩
  · intro q
    rw [c5]
    split
    · exact Nat.zero_le 2
    · exact i3 q
  · intro q
    rcases c6 q with g | g
    · exact Or.inl g.1
    · rw [g.1]; exact i4 q
  · have hb := zCnt_blk (f := mR_known m) (g := mR_known m') (p := u * 8 + a) c5 (x := cM_doneSettings τ (u * 8 + a)) (fun k hk => by rw [d1 u a k hu ha hk]; exact st_2 τ u a k)
    have h9 := hb.2.2 (2560 - ((u * 8 + a) * 16 + 16))
    rw [show (u * 8 + a) * 16 + 16 + (2560 - ((u * 8 + a) * 16 + 16)) = 2560 by omega] at h9
    rw [f3, i5, cBit_pc (i6 _), pk_sub (by omega), h9]
    congr 1
    omega
  · intro p k hk
    rw [f1]
    by_cases e : p = u * 8 + a
    · rw [e, upd_s, bt_nI0]
    · rw [upd_n e]; exact i6 p k hk
