/-! Integer.bitCount of sixteen bits, by four digits of four bits -/
theorem and16 {y r M s : Nat} (hr : r < 16) (hs : s < 16) : (16 * y + r) &&& (16 * M + s) = 16 * (y &&& M) + (r &&& s) := by
  have hrs : r &&& s < 2 ^ 4 := Nat.and_lt_two_pow r hs
  apply Nat.eq_of_testBit_eq
  intro j
  rw [Nat.testBit_and, show 16 * y + r = 2 ^ 4 * y + r by rfl, show 16 * M + s = 2 ^ 4 * M + s by rfl, show 16 * (y &&& M) + (r &&& s) = 2 ^ 4 * (y &&& M) + (r &&& s) by rfl, Nat.testBit_two_pow_mul_add _ (show r < 2 ^ 4 from hr), Nat.testBit_two_pow_mul_add _ (show s < 2 ^ 4 from hs), Nat.testBit_two_pow_mul_add _ hrs]
  split
  · rw [Nat.testBit_and]
  · rw [Nat.testBit_and]
/-- a number of four digits -/
def dg4 (a b c d : Nat) : Nat := a + 16 * (b + 16 * (c + 16 * d))
theorem and_dg {a b c d M s1 s2 s3 s4 : Nat} (ha : a < 16) (hb : b < 16) (hc : c < 16) (hd : d < 16) (h1 : s1 < 16) (h2 : s2 < 16) (h3 : s3 < 16) (h4 : s4 < 16) (hM : M % 16 = 0 → True) {N : Nat} (hN : N = 16 * (16 * (16 * (16 * M + s4) + s3) + s2) + s1) : dg4 a b c d &&& N = dg4 (a &&& s1) (b &&& s2) (c &&& s3) (d &&& s4) := by
  have e0 : d &&& (16 * M + s4) = d &&& s4 := by
    have := and16 (y := 0) (r := d) (M := M) (s := s4) hd h4
    simpa using this
  unfold dg4
  rw [hN, show a + 16 * (b + 16 * (c + 16 * d)) = 16 * (16 * (16 * d + c) + b) + a by omega, and16 ha h1, and16 hb h2, and16 hc h3, e0]
  omega
def p1 (d : Nat) : Nat := d - ((d / 2) &&& 5)
def p2 (d : Nat) : Nat := (d &&& 3) + d / 4
theorem p1_le : ∀ d, d < 16 → (d / 2) &&& 5 ≤ d ∧ p1 d < 16 := by decide
theorem p2_le : ∀ d, d < 16 → p2 (p1 d) ≤ 4 := by decide
theorem p5 : ∀ d, d < 16 → ∀ b, b < 2 → (d / 2 + 8 * b) &&& 5 = (d / 2) &&& 5 := by decide
theorem p3' : ∀ d, d < 16 → ∀ b, b < 4 → (d / 4 + 4 * b) &&& 3 = d / 4 := by decide
theorem p3le : ∀ d, d < 16 → d &&& 3 < 4 := by decide
theorem pF : ∀ d, d < 16 → d &&& 15 = d := by decide
theorem p0 : ∀ d, d < 16 → d &&& 0 = 0 := by decide
theorem pc4 : ∀ d, d < 16 → p2 (p1 d) = d % 2 + d / 2 % 2 + d / 4 % 2 + d / 8 % 2 := by decide
def pb1 (v : Nat) : Nat := v - ((v >>> 1) &&& 1431655765)
def pb2 (v : Nat) : Nat := (v &&& 858993459) + ((v >>> 2) &&& 858993459)
def pb3 (v : Nat) : Nat := (v + (v >>> 4)) &&& 252645135
def pb4 (v : Nat) : Nat := v + (v >>> 8)
def pb5 (v : Nat) : Nat := v + (v >>> 16)
theorem pb1_dg {a b c d : Nat} (ha : a < 16) (hb : b < 16) (hc : c < 16) (hd : d < 16) : (dg4 a b c d >>> 1) &&& 1431655765 ≤ dg4 a b c d ∧ pb1 (dg4 a b c d) = dg4 (p1 a) (p1 b) (p1 c) (p1 d) := by
  have e : dg4 a b c d >>> 1 = dg4 (a / 2 + 8 * (b % 2)) (b / 2 + 8 * (c % 2)) (c / 2 + 8 * (d % 2)) (d / 2 + 8 * 0) := by
    rw [Nat.shiftRight_eq_div_pow]
    unfold dg4
    omega
  have e2 : (dg4 a b c d >>> 1) &&& 1431655765 = dg4 ((a / 2) &&& 5) ((b / 2) &&& 5) ((c / 2) &&& 5) ((d / 2) &&& 5) := by
    rw [e, and_dg (M := 21845) (s1 := 5) (s2 := 5) (s3 := 5) (s4 := 5) (by omega) (by omega) (by omega) (by omega) (by decide) (by decide) (by decide) (by decide) (fun _ => trivial) (by decide), p5 a ha _ (by omega), p5 b hb _ (by omega), p5 c hc _ (by omega), p5 d hd _ (by omega)]
  have h1 := p1_le a ha
  have h2 := p1_le b hb
  have h3 := p1_le c hc
  have h4 := p1_le d hd
  unfold pb1
  rw [e2]
  unfold dg4 p1 at *
  omega
theorem pb2_dg {a b c d : Nat} (ha : a < 16) (hb : b < 16) (hc : c < 16) (hd : d < 16) : pb2 (dg4 a b c d) = dg4 (p2 a) (p2 b) (p2 c) (p2 d) := by
  have e : dg4 a b c d >>> 2 = dg4 (a / 4 + 4 * (b % 4)) (b / 4 + 4 * (c % 4)) (c / 4 + 4 * (d % 4)) (d / 4 + 4 * 0) := by
    rw [Nat.shiftRight_eq_div_pow]
    unfold dg4
    omega
  unfold pb2
  rw [e, and_dg (M := 13107) (s1 := 3) (s2 := 3) (s3 := 3) (s4 := 3) ha hb hc hd (by decide) (by decide) (by decide) (by decide) (fun _ => trivial) (by decide), and_dg (M := 13107) (s1 := 3) (s2 := 3) (s3 := 3) (s4 := 3) (by omega) (by omega) (by omega) (by omega) (by decide) (by decide) (by decide) (by decide) (fun _ => trivial) (by decide), p3' a ha _ (by omega), p3' b hb _ (by omega), p3' c hc _ (by omega), p3' d hd _ (by omega)]
  unfold dg4 p2
  omega
theorem pb3_dg {a b c d : Nat} (ha : a ≤ 4) (hb : b ≤ 4) (hc : c ≤ 4) (hd : d ≤ 4) : pb3 (dg4 a b c d) = dg4 (a + b) 0 (c + d) 0 := by
  have e : dg4 a b c d + (dg4 a b c d >>> 4) = dg4 (a + b) (b + c) (c + d) d := by
    rw [Nat.shiftRight_eq_div_pow]
    unfold dg4
    omega
  unfold pb3
  rw [e, and_dg (M := 3855) (s1 := 15) (s2 := 0) (s3 := 15) (s4 := 0) (by omega) (by omega) (by omega) (by omega) (by decide) (by decide) (by decide) (by decide) (fun _ => trivial) (by decide), pF _ (by omega), pF _ (by omega), p0 _ (by omega), p0 _ (by omega)]
/-- how many of the first n bits of v are set -/
def pcN (v : Nat) : Nat → Nat
  | 0 => 0
  | n + 1 => pcN v n + (v / 2 ^ n) % 2
theorem f_le (a : Nat) : a % 2 + a / 2 % 2 + a / 4 % 2 + a / 8 % 2 ≤ 4 := by omega
theorem pcN_dg {a b c d : Nat} (ha : a < 16) (hb : b < 16) (hc : c < 16) (hd : d < 16) : pcN (dg4 a b c d) 16 = (a % 2 + a / 2 % 2 + a / 4 % 2 + a / 8 % 2) + (b % 2 + b / 2 % 2 + b / 4 % 2 + b / 8 % 2) + (c % 2 + c / 2 % 2 + c / 4 % 2 + c / 8 % 2) + (d % 2 + d / 2 % 2 + d / 4 % 2 + d / 8 % 2) := by
  have g0 : dg4 a b c d / 1 = a + 16 * (b + 16 * (c + 16 * d)) := by rw [Nat.div_one]; rfl
  have g1 : dg4 a b c d / 16 = b + 16 * (c + 16 * d) := by unfold dg4; omega
  have g2 : dg4 a b c d / 256 = c + 16 * d := by unfold dg4; omega
  have g3 : dg4 a b c d / 4096 = d + 16 * 0 := by unfold dg4; omega
  have lo : ∀ (x Y k : Nat), x < 16 → k = 1 ∨ k = 2 ∨ k = 4 ∨ k = 8 → (x + 16 * Y) / k % 2 = x / k % 2 := by intro x Y k hx hk; rcases hk with rfl | rfl | rfl | rfl <;> omega
  have z0 : dg4 a b c d / 2 ^ 0 % 2 = a % 2 := by rw [show (2 : Nat) ^ 0 = 1 * 1 from rfl, ← Nat.div_div_eq_div_mul, g0, lo _ _ _ ha (by decide), Nat.div_one]
  have z1 : dg4 a b c d / 2 ^ 1 % 2 = a / 2 % 2 := by rw [show (2 : Nat) ^ 1 = 1 * 2 from rfl, ← Nat.div_div_eq_div_mul, g0, lo _ _ _ ha (by decide)]
  have z2 : dg4 a b c d / 2 ^ 2 % 2 = a / 4 % 2 := by rw [show (2 : Nat) ^ 2 = 1 * 4 from rfl, ← Nat.div_div_eq_div_mul, g0, lo _ _ _ ha (by decide)]
  have z3 : dg4 a b c d / 2 ^ 3 % 2 = a / 8 % 2 := by rw [show (2 : Nat) ^ 3 = 1 * 8 from rfl, ← Nat.div_div_eq_div_mul, g0, lo _ _ _ ha (by decide)]
  have z4 : dg4 a b c d / 2 ^ 4 % 2 = b % 2 := by rw [show (2 : Nat) ^ 4 = 16 * 1 from rfl, ← Nat.div_div_eq_div_mul, g1, lo _ _ _ hb (by decide), Nat.div_one]
  have z5 : dg4 a b c d / 2 ^ 5 % 2 = b / 2 % 2 := by rw [show (2 : Nat) ^ 5 = 16 * 2 from rfl, ← Nat.div_div_eq_div_mul, g1, lo _ _ _ hb (by decide)]
  have z6 : dg4 a b c d / 2 ^ 6 % 2 = b / 4 % 2 := by rw [show (2 : Nat) ^ 6 = 16 * 4 from rfl, ← Nat.div_div_eq_div_mul, g1, lo _ _ _ hb (by decide)]
  have z7 : dg4 a b c d / 2 ^ 7 % 2 = b / 8 % 2 := by rw [show (2 : Nat) ^ 7 = 16 * 8 from rfl, ← Nat.div_div_eq_div_mul, g1, lo _ _ _ hb (by decide)]
  have z8 : dg4 a b c d / 2 ^ 8 % 2 = c % 2 := by rw [show (2 : Nat) ^ 8 = 256 * 1 from rfl, ← Nat.div_div_eq_div_mul, g2, lo _ _ _ hc (by decide), Nat.div_one]
  have z9 : dg4 a b c d / 2 ^ 9 % 2 = c / 2 % 2 := by rw [show (2 : Nat) ^ 9 = 256 * 2 from rfl, ← Nat.div_div_eq_div_mul, g2, lo _ _ _ hc (by decide)]
  have z10 : dg4 a b c d / 2 ^ 10 % 2 = c / 4 % 2 := by rw [show (2 : Nat) ^ 10 = 256 * 4 from rfl, ← Nat.div_div_eq_div_mul, g2, lo _ _ _ hc (by decide)]
  have z11 : dg4 a b c d / 2 ^ 11 % 2 = c / 8 % 2 := by rw [show (2 : Nat) ^ 11 = 256 * 8 from rfl, ← Nat.div_div_eq_div_mul, g2, lo _ _ _ hc (by decide)]
  have z12 : dg4 a b c d / 2 ^ 12 % 2 = d % 2 := by rw [show (2 : Nat) ^ 12 = 4096 * 1 from rfl, ← Nat.div_div_eq_div_mul, g3, lo _ _ _ hd (by decide), Nat.div_one]
  have z13 : dg4 a b c d / 2 ^ 13 % 2 = d / 2 % 2 := by rw [show (2 : Nat) ^ 13 = 4096 * 2 from rfl, ← Nat.div_div_eq_div_mul, g3, lo _ _ _ hd (by decide)]
  have z14 : dg4 a b c d / 2 ^ 14 % 2 = d / 4 % 2 := by rw [show (2 : Nat) ^ 14 = 4096 * 4 from rfl, ← Nat.div_div_eq_div_mul, g3, lo _ _ _ hd (by decide)]
  have z15 : dg4 a b c d / 2 ^ 15 % 2 = d / 8 % 2 := by rw [show (2 : Nat) ^ 15 = 4096 * 8 from rfl, ← Nat.div_div_eq_div_mul, g3, lo _ _ _ hd (by decide)]
  simp only [pcN, z0, z1, z2, z3, z4, z5, z6, z7, z8, z9, z10, z11, z12, z13, z14, z15]
  generalize a % 2 = x0
  generalize a / 2 % 2 = x1
  generalize a / 4 % 2 = x2
  generalize a / 8 % 2 = x3
  generalize b % 2 = y0
  generalize b / 2 % 2 = y1
  generalize b / 4 % 2 = y2
  generalize b / 8 % 2 = y3
  generalize c % 2 = u0
  generalize c / 2 % 2 = u1
  generalize c / 4 % 2 = u2
  generalize c / 8 % 2 = u3
  generalize d % 2 = w0
  generalize d / 2 % 2 = w1
  generalize d / 4 % 2 = w2
  generalize d / 8 % 2 = w3
  omega
theorem cUsh_nI {v k : Nat} (hv : v < 65536) (hk : k < 32) : cUsh (nI v) k = nI (v >>> k) := nx_ush hv hk
theorem cBit_nI {v : Nat} (h : v < 65536) : cBit (nI v) = nI (pcN v 16) := by
  obtain ⟨a, b, c, d, ha, hb, hc, hd, rfl⟩ : ∃ a b c d, a < 16 ∧ b < 16 ∧ c < 16 ∧ d < 16 ∧ v = dg4 a b c d := ⟨v % 16, v / 16 % 16, v / 256 % 16, v / 4096, by omega, by omega, by omega, by omega, by unfold dg4; omega⟩
  obtain ⟨g1, g2⟩ := pb1_dg ha hb hc hd
  have q1 := (p1_le a ha).2
  have q2 := (p1_le b hb).2
  have q3 := (p1_le c hc).2
  have q4 := (p1_le d hd).2
  have r1 := p2_le a ha
  have r2 := p2_le b hb
  have r3 := p2_le c hc
  have r4 := p2_le d hd
  have e1 : cBit1 (nI (dg4 a b c d)) = nI (dg4 (p1 a) (p1 b) (p1 c) (p1 d)) := by
    unfold cBit1
    rw [cUsh_nI h (by decide), show (1431655765 : Int32) = nI 1431655765 from rfl, nx_and, pk_sub g1]
    exact congrArg nI g2
  have e2 : cBit2 (nI (dg4 (p1 a) (p1 b) (p1 c) (p1 d))) = nI (dg4 (p2 (p1 a)) (p2 (p1 b)) (p2 (p1 c)) (p2 (p1 d))) := by
    unfold cBit2
    rw [cUsh_nI (by unfold dg4; omega) (by decide), show (858993459 : Int32) = nI 858993459 from rfl, nx_and, nx_and, nI_add]
    exact congrArg nI (pb2_dg q1 q2 q3 q4)
  have e3 : cBit3 (nI (dg4 (p2 (p1 a)) (p2 (p1 b)) (p2 (p1 c)) (p2 (p1 d)))) = nI (dg4 (p2 (p1 a) + p2 (p1 b)) 0 (p2 (p1 c) + p2 (p1 d)) 0) := by
    unfold cBit3
    rw [cUsh_nI (by unfold dg4; omega) (by decide), nI_add, show (252645135 : Int32) = nI 252645135 from rfl, nx_and]
    exact congrArg nI (pb3_dg r1 r2 r3 r4)
  rw [pc4 a ha, pc4 b hb, pc4 c hc, pc4 d hd] at e3
  have f1 := f_le a
  have f2 := f_le b
  have f3 := f_le c
  have f4 := f_le d
  have ep : pcN (dg4 a b c d) 16 = (a % 2 + a / 2 % 2 + a / 4 % 2 + a / 8 % 2) + (b % 2 + b / 2 % 2 + b / 4 % 2 + b / 8 % 2) + (c % 2 + c / 2 % 2 + c / 4 % 2 + c / 8 % 2) + (d % 2 + d / 2 % 2 + d / 4 % 2 + d / 8 % 2) := pcN_dg ha hb hc hd
  unfold cBit
  rw [e1, e2, pc4 a ha, pc4 b hb, pc4 c hc, pc4 d hd, e3, ep]
  generalize a % 2 + a / 2 % 2 + a / 4 % 2 + a / 8 % 2 = w1 at *
  generalize b % 2 + b / 2 % 2 + b / 4 % 2 + b / 8 % 2 = w2 at *
  generalize c % 2 + c / 2 % 2 + c / 4 % 2 + c / 8 % 2 = w3 at *
  generalize d % 2 + d / 2 % 2 + d / 4 % 2 + d / 8 % 2 = w4 at *
  have e4 : cBit4 (nI (dg4 (w1 + w2) 0 (w3 + w4) 0)) = nI ((w1 + w2 + w3 + w4) + 256 * (w3 + w4)) := by
    unfold cBit4
    rw [cUsh_nI (by unfold dg4; omega) (by decide), nI_add, Nat.shiftRight_eq_div_pow]
    congr 1
    unfold dg4
    omega
  have e5 : cBit5 (nI ((w1 + w2 + w3 + w4) + 256 * (w3 + w4))) = nI ((w1 + w2 + w3 + w4) + 256 * (w3 + w4)) := by
    unfold cBit5
    rw [cUsh_nI (by omega) (by decide), nI_add, Nat.shiftRight_eq_div_pow]
    congr 1
    omega
  rw [e4, e5, pk_andN (by omega) (m := nI 63) 6 (by decide)]
  congr 1
  omega
/-- how many of the first n bits are set -/
def pcB (x : Int32) : Nat → Nat
  | 0 => 0
  | n + 1 => pcB x n + (if bt x n = true then 1 else 0)
theorem bt_nI {v i : Nat} (hi : i < 32) : bt (nI v) i = v.testBit i := by
  show (BitVec.ofNat 32 v).getLsbD i = _
  rw [BitVec.getLsbD_ofNat]
  simp [hi]
theorem pcB_nI (v : Nat) : ∀ n, n ≤ 32 → pcB (nI v) n = pcN v n := by
  intro n
  induction n with
  | zero => intro _; rfl
  | succ n ih =>
    intro h
    rw [pcB, pcN, ih (by omega), bt_nI (by omega), Nat.testBit_eq_decide_div_mod_eq]
    generalize v / 2 ^ n = z
    by_cases e : z % 2 = 1
    · simp [e]
    · simp [e]; omega
theorem lt_of_bits {x : Int32} (h : ∀ k, 16 ≤ k → bt x k = false) : ∃ v, v < 65536 ∧ x = nI v := by
  refine ⟨x.toBitVec.toNat, ?_, ?_⟩
  · apply Nat.lt_of_not_le
    intro h1
    obtain ⟨i, hi, hb⟩ := Nat.exists_ge_and_testBit_of_ge_two_pow (n := 16) h1
    have h2 := h i hi
    have h3 : bt x i = x.toBitVec.toNat.testBit i := rfl
    rw [h3, hb] at h2
    exact absurd h2 (by decide)
  · apply Int32.toBitVec_inj.mp
    show x.toBitVec = BitVec.ofNat 32 x.toBitVec.toNat
    simp
theorem cBit_pc {x : Int32} (h : ∀ k, 16 ≤ k → bt x k = false) : cBit x = nI (pcB x 16) := by
  obtain ⟨v, hv, rfl⟩ := lt_of_bits h
  rw [cBit_nI hv, pcB_nI v 16 (by decide)]
