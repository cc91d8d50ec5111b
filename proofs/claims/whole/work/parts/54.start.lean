/-! new objects are related -/
theorem zCnt_0 (n : Nat) : zCnt (fun _ => 0) n = 0 := by
  induction n with
  | zero => rfl
  | succ n ih => rw [zCnt, ih]; rfl
theorem nI0_int : (0 : Int32) = nI 0 := by decide +kernel
theorem rel_start : Rel cZ mZ := by
  have f1 : mR_targets mZ = 0 := rfl
  have f2 : mR_aspects mZ = 0 := rfl
  have f3 : mR_rowSize mZ = fun _ => 0 := rfl
  have f4 : mR_known mZ = fun _ => 0 := rfl
  have f5 : mR_madeBy mZ = fun j => if j < 200 then -1 else 0 := rfl
  have f6 : mR_needMany mZ = fun _ => 0 := rfl
  have f7 : mR_touched mZ = fun _ => 0 := rfl
  have f8 : mR_standsFor mZ = fun _ => 0 := rfl
  have f9 : mR_row mZ = fun _ => 0 := rfl
  have f10 : mR_needs mZ = fun _ => 0 := rfl
  have f11 : mR_kind mZ = fun _ => 0 := rfl
  have f12 : mR_nameOf mZ = fun _ => 0 := rfl
  refine ⟨⟨rfl, rfl, rfl, rfl, rfl, ?_, rfl, rfl, rfl, rfl, rfl, rfl, rfl, rfl⟩, ⟨?_, rfl, rfl, rfl, ?_⟩, ⟨?_, ?_, ?_, ?_, ?_, ?_⟩, ⟨?_, ?_, ?_, ?_, ?_, ?_, ?_, ?_, ?_⟩, ⟨by decide, by decide, fun _ => (by decide : 0 < 20), fun _ => (by decide : 0 < 20), fun _ => (by decide : 0 ≤ 4), fun _ => (by decide : 0 < 8), fun _ => (by decide : 0 ≤ 3), fun _ => (by decide : 0 ≤ 3), fun _ => Or.inr ⟨0, by decide, nI0_int⟩⟩, ?_, ⟨?_, ?_⟩, ⟨?_, ?_, ?_, ?_, ?_⟩, ?_⟩
  · intro t z i _ _ hi
    rw [f3] at hi
    exact absurd hi (Nat.not_lt_zero i)
  · intro t a k _ _ _
    rw [f4]
    unfold cSt
    show 0 = if bt 0 k = true then 2 else if bt 0 k = true then 1 else 0
    rw [b_0]
    rfl
  · intro t n ht hn
    left
    refine ⟨?_, ?_⟩
    · show (if t * 10 + n < 200 then (-1 : Int32) else 0) = -1
      rw [if_pos (by omega)]
    · rw [f5]
      show (if 10 * t + n < 200 then (-1 : Int32) else 0) = -1
      rw [if_pos (by omega)]
  · intro t a k _ _ _ h
    rw [f4] at h
    exact absurd rfl h
  · intro t n a k ht hn ha hk e
    rw [f5] at e
    have e : (if 10 * t + n < 200 then (-1 : Int32) else 0) = nI (16 * a + k) := e
    rw [if_pos (by omega)] at e
    exact absurd e.symm (nI_ne_m1 (by omega))
  · intro q; rw [f4]; exact Nat.zero_le _
  · intro q
    rw [f5]
    show (if q < 200 then (-1 : Int32) else 0) = -1 ∨ _
    by_cases h : q < 200
    · rw [if_pos h]; exact Or.inl rfl
    · right
      refine ⟨0, by decide, ?_⟩
      show (if q < 200 then (-1 : Int32) else 0) = nI 0
      rw [if_neg h]; exact nI0_int
  · rw [f4, zCnt_0]; exact nI0_int
  · intro p k _; exact b_0 k
  · rw [f1]; decide
  · rw [f2]; decide
  · intro q; rw [f8]; exact (by decide : 0 < 20)
  · intro q; rw [f9]; exact (by decide : 0 < 20)
  · intro q; rw [f3]; exact (by decide : 0 ≤ 4)
  · intro q; rw [f10]; exact (by decide : 0 < 8)
  · intro q; rw [f6]; exact (by decide : 0 ≤ 3)
  · intro q; rw [f11]; exact (by decide : 0 ≤ 3)
  · intro q; rw [f12]; exact Or.inr ⟨0, by decide, nI0_int⟩
  · intro u hu
    rw [f1] at hu
    exact absurd hu (Nat.not_lt_zero u)
  · intro a ha
    rw [f2] at ha
    exact absurd ha (Nat.not_lt_zero a)
  · intro a i ha
    rw [f2] at ha
    exact absurd ha (Nat.not_lt_zero a)
  · intro q; rw [f7]; exact (by decide : 0 ≤ 1)
  · intro q hq
    rw [f1] at hq
    exact absurd hq (Nat.not_lt_zero q)
  · intro t z i ht
    rw [f1] at ht
    exact absurd ht (Nat.not_lt_zero t)
  · intro t z _ _; rw [f3]
  · intro a _; rw [f6]
  · intro q _ j; exact b_0 j
