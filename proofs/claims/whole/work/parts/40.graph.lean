/-! reaching along needs -/
theorem pcB_le {x y : Int32} : ∀ n, (∀ j, j < n → bt x j = true → bt y j = true) → pcB x n ≤ pcB y n := by
  intro n
  induction n with
  | zero => intro _; exact Nat.le_refl _
  | succ n ih =>
    intro h
    have h1 := ih (fun j hj => h j (by omega))
    rw [pcB, pcB]
    by_cases e : bt x n = true
    · rw [if_pos e, if_pos (h n (by omega) e)]; omega
    · rw [if_neg e]; split <;> omega
theorem pcB_lt {x y : Int32} {j0 : Nat} (h0 : bt y j0 = true) (h1 : bt x j0 = false) : ∀ n, j0 < n → (∀ j, j < n → bt x j = true → bt y j = true) → pcB x n < pcB y n := by
  intro n
  induction n with
  | zero => intro h; omega
  | succ n ih =>
    intro hj h
    rw [pcB, pcB]
    by_cases e : j0 = n
    · subst e
      have h2 := pcB_le (x := x) (y := y) j0 (fun j hj => h j (by omega))
      rw [if_pos h0, h1]
      simp
      omega
    · have h2 := ih (by omega) (fun j hj => h j (by omega))
      by_cases e2 : bt x n = true
      · rw [if_pos e2, if_pos (h n (by omega) e2)]; omega
      · rw [if_neg e2]; split <;> omega
theorem pcB_top (x : Int32) (n : Nat) : pcB x n ≤ n := by
  induction n with
  | zero => exact Nat.le_refl _
  | succ n ih => rw [pcB]; split <;> omega
/-- what the class says of reaching, of aspects -/
def reachA (R : Nat → Int32) (m : mS) : Prop := (∀ a, a < mR_aspects m → ∀ j, j < 8 → (bt (R a) j = true ↔ j = a ∨ ∃ i, i < mR_needMany m a ∧ bt (R (mR_needs m (3 * a + i))) j = true)) ∧ (∀ a i, a < mR_aspects m → i < mR_needMany m a → mR_needs m (3 * a + i) < mR_aspects m ∧ bt (R (mR_needs m (3 * a + i))) a = false)
theorem rk_lt {R : Nat → Int32} {m : mS} (hA8 : mR_aspects m ≤ 8) (h : reachA R m) {a i : Nat} (ha : a < mR_aspects m) (hi : i < mR_needMany m a) : pcB (R (mR_needs m (3 * a + i))) 8 < pcB (R a) 8 :=
  pcB_lt (j0 := a) ((h.1 a ha a (by omega)).mpr (Or.inl rfl)) (h.2 a i ha hi).2 8 (by omega) (fun j hj hb => (h.1 a ha j hj).mpr (Or.inr ⟨i, hi, hb⟩))
theorem reach_tr {R : Nat → Int32} {m : mS} (hA8 : mR_aspects m ≤ 8) (h : reachA R m) : ∀ (n x y z : Nat), pcB (R x) 8 ≤ n → x < mR_aspects m → y < mR_aspects m → z < 8 → bt (R x) y = true → bt (R y) z = true → bt (R x) z = true := by
  intro n
  induction n with
  | zero =>
    intro x y z hn hx hy hz hxy
    exfalso
    have h1 := pcB_lt (x := 0) (y := R x) (j0 := x) ((h.1 x hx x (by omega)).mpr (Or.inl rfl)) (b_0 x) 8 (by omega) (fun j _ hb => by rw [b_0] at hb; exact absurd hb (by decide))
    omega
  | succ n ih =>
    intro x y z hn hx hy hz hxy hyz
    rcases (h.1 x hx y (by omega)).mp hxy with e | ⟨i, hi, hb⟩
    · subst e; exact hyz
    · have h1 := rk_lt hA8 h hx hi
      exact (h.1 x hx z hz).mpr (Or.inr ⟨i, hi, ih _ y z (by omega) (h.2 x i hx hi).1 hy hz hb hyz⟩)
theorem mNd_or (m : mS) (a b j : Nat) : ¬ mNd m a b j = 0 ↔ ∃ i, i < j ∧ mR_needs m (3 * a + i) = b := by
  induction j with
  | zero => exact ⟨fun h => absurd rfl h, fun ⟨i, hi, _⟩ => absurd hi (Nat.not_lt_zero i)⟩
  | succ j ih =>
    rw [mNd]
    by_cases e : mNd m a b j = 0
    · rw [if_pos e]
      constructor
      · intro h
        split at h
        · rename_i h1; exact ⟨j, by omega, h1⟩
        · exact absurd rfl h
      · intro ⟨i, hi, h1⟩
        by_cases e2 : i = j
        · subst e2; rw [if_pos h1]; decide
        · exact absurd e (ih.mpr ⟨i, by omega, h1⟩)
    · rw [if_neg e]
      obtain ⟨i, hi, h1⟩ := ih.mp e
      exact ⟨fun _ => ⟨i, by omega, h1⟩, fun _ => by decide⟩
theorem mHN_or (m : mS) (a b : Nat) : ¬ mHN m a b = 0 ↔ ∃ i, i < mR_needMany m a ∧ mR_needs m (3 * a + i) = b := mNd_or m a b _
/-- what a step of neederBits adds -/
theorem bc_bit {m : mS} {b : Nat} {x : Int32} {c j : Nat} (hb : b < 32) (hc : c < 32) (hj : j < 32) : bt (mBc m b x (c + 1)) j = true ↔ bt (mBc m b x c) j = true ∨ (j = b ∧ ¬ mHN m b c = 0 ∧ bt (mBc m b x c) c = true) := by
  rw [mBc, b_or, Bool.or_eq_true]
  constructor
  · intro h
    rcases h with h | h
    · exact Or.inl h
    · right
      split at h
      · rw [bt_nI0] at h; exact absurd h (by decide)
      · rename_i h1
        split at h
        · rename_i h2
          rw [bt_one hb hj] at h
          exact ⟨by simpa using h, h1, (z_bitk hc _).mp h2⟩
        · rw [bt_nI0] at h; exact absurd h (by decide)
  · intro h
    rcases h with h | ⟨h1, h2, h3⟩
    · exact Or.inl h
    · right
      rw [if_neg h2, if_pos ((z_bitk hc _).mpr h3), bt_one hb hj]
      simpa using h1
theorem bc_mono {m : mS} {b : Nat} {x : Int32} (hb : b < 32) {j : Nat} (hj : j < 32) (h : bt x j = true) : ∀ c, c ≤ 32 → bt (mBc m b x c) j = true := by
  intro c
  induction c with
  | zero => intro _; exact h
  | succ c ih => intro hc; exact (bc_bit hb (by omega) hj).mpr (Or.inl (ih (by omega)))
theorem bc_set {m : mS} {b : Nat} {x : Int32} (hb : b < 32) {c0 : Nat} (hn : ¬ mHN m b c0 = 0) (h : bt x c0 = true) : ∀ c, c ≤ 32 → c0 < c → bt (mBc m b x c) b = true := by
  intro c
  induction c with
  | zero => intro _ h; omega
  | succ c ih =>
    intro hc hc0
    by_cases e : c0 = c
    · subst e
      exact (bc_bit hb (by omega) hb).mpr (Or.inr ⟨rfl, hn, bc_mono hb (by omega) h c0 (by omega)⟩)
    · exact (bc_bit hb (by omega) hb).mpr (Or.inl (ih (by omega) (by omega)))
theorem bc_sound {m : mS} {b : Nat} {x : Int32} (hb : b < 32) {S : Nat → Prop} (hS : ∀ c, ¬ mHN m b c = 0 → S c → S b) (h : ∀ j, j < 32 → bt x j = true → S j) : ∀ c, c ≤ 32 → ∀ j, j < 32 → bt (mBc m b x c) j = true → S j := by
  intro c
  induction c with
  | zero => intro _; exact h
  | succ c ih =>
    intro hc j hj hbt
    rcases (bc_bit hb (by omega) hj).mp hbt with g | ⟨g1, g2, g3⟩
    · exact ih (by omega) j hj g
    · rw [g1]; exact hS c g2 (ih (by omega) c (by omega) g3)
theorem bb_mono {m : mS} (hA8 : mR_aspects m ≤ 8) {x : Int32} {j : Nat} (hj : j < 32) (h : bt x j = true) : ∀ b, b ≤ 8 → bt (mBb m x b) j = true := by
  intro b
  induction b with
  | zero => intro _; exact h
  | succ b ih => intro hb; rw [mBb]; exact bc_mono (by omega) hj (ih (by omega)) _ (by omega)
theorem bb_set {m : mS} (hA8 : mR_aspects m ≤ 8) {x : Int32} {b0 c0 : Nat} (hc0 : c0 < mR_aspects m) (hn : ¬ mHN m b0 c0 = 0) (h : bt x c0 = true) : ∀ b, b ≤ 8 → b0 < b → bt (mBb m x b) b0 = true := by
  intro b
  induction b with
  | zero => intro _ h; omega
  | succ b ih =>
    intro hb h0
    rw [mBb]
    by_cases e : b0 = b
    · subst e
      exact bc_set (by omega) hn (bb_mono hA8 (by omega) h b0 (by omega)) _ (by omega) hc0
    · exact bc_mono (by omega) (by omega) (ih (by omega) (by omega)) _ (by omega)
theorem bb_sound {m : mS} (hA8 : mR_aspects m ≤ 8) {x : Int32} {S : Nat → Prop} (hS : ∀ b c, b < mR_aspects m → ¬ mHN m b c = 0 → S c → S b) (h : ∀ j, j < 32 → bt x j = true → S j) : ∀ b, b ≤ mR_aspects m → ∀ j, j < 32 → bt (mBb m x b) j = true → S j := by
  intro b
  induction b with
  | zero => intro _; exact h
  | succ b ih =>
    intro hb
    rw [mBb]
    exact bc_sound (by omega) (fun c => hS b c (by omega)) (ih (by omega)) _ (by omega)
theorem br_mono {m : mS} (hA8 : mR_aspects m ≤ 8) {x : Int32} {j : Nat} (hj : j < 32) (h : bt x j = true) (r : Nat) : bt (mBr m x r) j = true := by
  induction r with
  | zero => exact h
  | succ r ih => rw [mBr]; exact bb_mono hA8 hj ih _ hA8
theorem br_sound {m : mS} (hA8 : mR_aspects m ≤ 8) {x : Int32} {S : Nat → Prop} (hS : ∀ b c, b < mR_aspects m → ¬ mHN m b c = 0 → S c → S b) (h : ∀ j, j < 32 → bt x j = true → S j) (r : Nat) : ∀ j, j < 32 → bt (mBr m x r) j = true → S j := by
  induction r with
  | zero => exact h
  | succ r ih => rw [mBr]; exact bb_sound hA8 hS ih _ (Nat.le_refl _)
/-- neederBits: all that reach n, and nothing else -/
theorem bits_ok {R : Nat → Int32} {m : mS} (hA8 : mR_aspects m ≤ 8) (h : reachA R m) {n b : Nat} (hn : n < mR_aspects m) (hb : b < mR_aspects m) : bt (mBits m n) b = true ↔ bt (R b) n = true := by
  unfold mBits
  constructor
  · intro hbt
    have h1 := br_sound hA8 (x := nI 1 <<< (nI n &&& 31)) (S := fun j => j < mR_aspects m ∧ bt (R j) n = true) (fun b c hb hbc hc => by
      obtain ⟨i, hi, e⟩ := (mHN_or m b c).mp hbc
      exact ⟨hb, (h.1 b hb n (by omega)).mpr (Or.inr ⟨i, hi, by rw [e]; exact hc.2⟩)⟩) (fun j hj hx => by
      rw [bt_one (by omega) hj] at hx
      have e : j = n := by simpa using hx
      rw [e]
      exact ⟨hn, (h.1 n hn n (by omega)).mpr (Or.inl rfl)⟩) 8 b (by omega) hbt
    exact h1.2
  · have key : ∀ r b, b < mR_aspects m → pcB (R b) 8 ≤ r → bt (R b) n = true → bt (mBr m (nI 1 <<< (nI n &&& 31)) r) b = true := by
      intro r
      induction r with
      | zero =>
        intro b hb hr _
        exfalso
        have h1 := pcB_lt (x := 0) (y := R b) (j0 := b) ((h.1 b hb b (by omega)).mpr (Or.inl rfl)) (b_0 b) 8 (by omega) (fun j _ hx => by rw [b_0] at hx; exact absurd hx (by decide))
        omega
      | succ r ih =>
        intro b hb hr hbn
        rw [mBr]
        rcases (h.1 b hb n (by omega)).mp hbn with e | ⟨i, hi, hx⟩
        · subst e
          exact bb_mono hA8 (by omega) (br_mono hA8 (by omega) (by rw [bt_one (by omega) (by omega)]; simp) r) _ hA8
        · have h1 := rk_lt hA8 h hb hi
          have h2 := h.2 b i hb hi
          exact bb_set hA8 h2.1 ((mHN_or m b _).mpr ⟨i, hi, rfl⟩) (ih _ h2.1 (by omega) hx) _ hA8 hb
    intro hbn
    exact key 8 b hb (pcB_top _ _) hbn
