/-! contracts of Memory.forget, Integer.bitCount, Math.max, and of the class's helpers that only read (by program: wip/gen/wpriv.py) -/
def cUsh (x : Int32) (k : Nat) : Int32 := (x.toUInt32 >>> ((nI k).toUInt32 &&& Int32.toUInt32 31)).toInt32
def cBit1 (x : Int32) : Int32 := x - (cUsh x 1 &&& 1431655765)
def cBit2 (x : Int32) : Int32 := (x &&& 858993459) + (cUsh x 2 &&& 858993459)
def cBit3 (x : Int32) : Int32 := (x + cUsh x 4) &&& 252645135
def cBit4 (x : Int32) : Int32 := x + cUsh x 8
def cBit5 (x : Int32) : Int32 := x + cUsh x 16
/-- Integer.bitCount -/
def cBit (x : Int32) : Int32 := cBit5 (cBit4 (cBit3 (cBit2 (cBit1 x)))) &&& nI 63
/-- Math.max -/
def cMax (x y : Int64) : Int64 := if y < x then x else y
def cForget3 (σ : cS) (t a : Nat) : cS := p_cM_passedSettings (p_cM_doneSettings (p_cM_nowDone σ (cM_nowDone σ - cBit (cM_doneSettings σ (t * 8 + a)))) (upd (cM_doneSettings σ) (t * 8 + a) (nI 0))) (upd (cM_passedSettings σ) (t * 8 + a) (nI 0))
def cForgetQ (σ : cS) (t a q : Nat) : cS := if cM_makers σ (t * 10 + q) = nI a then p_cM_makers (cForget3 σ t a) (upd (cM_makers σ) (t * 10 + q) (-1)) else cForget3 σ t a
def cForget (σ : cS) (t a : Nat) (nm : Int32) : cS := if nm = -1 then cForget3 σ t a else cForgetQ σ t a nm.toNatClampNeg
def cJoin (kd : Nat) (x y : Int64) : Int64 := if kd = 1 then cMax x y else if kd = 2 then 31 * x + y else x + y
def cJoinPart (σ : cS) (kd : Nat) (x : Int64) (t a k : Nat) : Int64 := if cKnown σ t a k = nI 1 then cJoin kd x (cM_results σ ((t * 8 + a) * 16 + k)) else x
def cLen (σ : cS) (t a z : Nat) : Nat := if cLead (cA_alongs σ a) z = 0 then 0 else cT_rowLengths σ (t * 3 + z)
def cJN (σ : cS) (kd : Nat) (x : Int64) (t a k : Nat) : Nat → Int64
  | 0 => x
  | i + 1 => cJoinPart σ kd (cJN σ kd x t a k i) t (cA_needs σ (a * 3 + i)) k
def cJBi (σ : cS) (kd : Nat) (x : Int64) (t a k z : Nat) : Nat → Int64
  | 0 => x
  | i + 1 => cJoinPart σ kd (cJBi σ kd x t a k z i) (cT_rows σ ((t * 3 + z) * 4 + i)) a k
def cJB (σ : cS) (kd : Nat) (x : Int64) (t a k : Nat) : Nat → Int64
  | 0 => x
  | z + 1 => cJBi σ kd (cJB σ kd x t a k z) t a k z (cLen σ t a z)
def cJoined (σ : cS) (t a k : Nat) : Int64 := if cA_kinds σ a = 3 then cJB σ (cA_kinds σ a) 1 t a k 3 else cJN σ (cA_kinds σ a) (cJB σ (cA_kinds σ a) (cT_values σ t + (nI k).toInt64) t a k 3) t a k (cA_needCounts σ a)
/-- what is offered: the target's own, and what the first i needs give that are done -/
def cOffer (σ : cS) (t a k : Nat) : Nat → Int32
  | 0 => cT_providers σ t
  | i + 1 => if cKnown σ t (cA_needs σ (a * 3 + i)) k = nI 1 then cOffer σ t a k i ||| cA_gives σ (cA_needs σ (a * 3 + i)) else cOffer σ t a k i
def cLacks (σ : cS) (t a k : Nat) : Nat := if cA_wants σ a &&& (cOffer σ t a k (cA_needCounts σ a) ^^^ (-1)) = 0 then 0 else 1
theorem cLacks_lt (σ : cS) (t a k : Nat) : cLacks σ t a k < 2 ^ 31 := by unfold cLacks; split <;> decide
def cAsked (σ : cS) (x y z : Int32) : Nat := if cHas (cT_opened σ) x = 0 then 0 else if cHas (cA_opened σ) y = 0 then 0 else if z < 0 then 0 else if nI 16 ≤ z then 0 else 1
theorem cAsked_lt (σ : cS) (x y z : Int32) : cAsked σ x y z < 2 ^ 31 := by unfold cAsked; split <;> (try split) <;> (try split) <;> (try split) <;> decide
/-- the bounds that the class keeps in Targets and Aspects -/
def cB (σ : cS) : Prop := cT_opened σ ≤ 20 ∧ cA_opened σ ≤ 8 ∧ (∀ q, cT_ends σ q < 20) ∧ (∀ q, cT_rows σ q < 20) ∧ (∀ q, cT_rowLengths σ q ≤ 4) ∧ (∀ q, cA_needs σ q < 8) ∧ (∀ q, cA_needCounts σ q ≤ 3) ∧ (∀ q, cA_kinds σ q ≤ 3) ∧ (∀ q, cA_names σ q = -1 ∨ ∃ n, n < 10 ∧ cA_names σ q = nI n)
theorem cLen_le {σ : cS} (hB : cB σ) (t a z : Nat) : cLen σ t a z ≤ 4 := by
  unfold cLen; split
  · omega
  · exact hB.2.2.2.2.1 _

set_option maxHeartbeats 4000000 in
set_option maxRecDepth 100000 in
/-- Integer.bitCount(x) -/
theorem k_Ji_bitCount (l : Launch) (K : zK) (G : Nat → Nat) (A : Nat → Prop) (hD : ∀ σ, va_D A (cW K G σ)) (σ : cS) (x : Int32) : zMet l K A zy_Ji_bitCount zws_Ji_bitCount 0 [.int x] (cW K G σ) (cW K G σ) (some (.int (cBit x))) := by
  refine z_entry (by decide) (Nat.le_of_ble_eq_true rfl) ?_
  intro p e s m below meth c ls X hr hml hlocks hP hl
  have hS : va_S A s.heap s.heap [] := va_S.rf
  have hl : lv_has ls 1 [(0, .int x)] := hl
  refine lv_iload_n X.1 X.2.1 zd_Ji_bitCount_0 rfl (lv_at hl 0 rfl) ?_
  refine lv_iload_n X.1 X.2.1 zd_Ji_bitCount_1 rfl (lv_at hl 0 rfl) ?_
  refine lv_iconst (v := nI 1) X.1 X.2.1 zd_Ji_bitCount_2 (by decide) ?_
  refine lv_iushr (v := cUsh x 1) X.1 X.2.1 zd_Ji_bitCount_3 rfl ?_
  refine lv_ldcw (v := 1431655765) X.1 X.2.1 X.2.2.1 (X.2.2.2.1 _ zw_202) zd_Ji_bitCount_4 ?_
  refine lv_iand X.1 X.2.1 zd_Ji_bitCount_7 ?_
  refine lv_isub X.1 X.2.1 zd_Ji_bitCount_8 ?_
  refine lv_istore_n (lv' := [(0, .int (x - ((cUsh x 1) &&& 1431655765)))]) X.1 X.2.1 zd_Ji_bitCount_9 rfl hl (by decide) rfl (fun ls hl => ?_)
  refine lv_iload_n X.1 X.2.1 zd_Ji_bitCount_10 rfl (lv_at hl 0 rfl) ?_
  refine lv_ldcw (v := 858993459) X.1 X.2.1 X.2.2.1 (X.2.2.2.1 _ zw_203) zd_Ji_bitCount_11 ?_
  refine lv_iand X.1 X.2.1 zd_Ji_bitCount_14 ?_
  refine lv_iload_n X.1 X.2.1 zd_Ji_bitCount_15 rfl (lv_at hl 0 rfl) ?_
  refine lv_iconst (v := nI 2) X.1 X.2.1 zd_Ji_bitCount_16 (by decide) ?_
  refine lv_iushr (v := cUsh (x - ((cUsh x 1) &&& 1431655765)) 2) X.1 X.2.1 zd_Ji_bitCount_17 rfl ?_
  refine lv_ldcw (v := 858993459) X.1 X.2.1 X.2.2.1 (X.2.2.2.1 _ zw_203) zd_Ji_bitCount_18 ?_
  refine lv_iand X.1 X.2.1 zd_Ji_bitCount_21 ?_
  refine lv_iadd X.1 X.2.1 zd_Ji_bitCount_22 ?_
  refine lv_istore_n (lv' := [(0, .int (((x - ((cUsh x 1) &&& 1431655765)) &&& 858993459) + ((cUsh (x - ((cUsh x 1) &&& 1431655765)) 2) &&& 858993459)))]) X.1 X.2.1 zd_Ji_bitCount_23 rfl hl (by decide) rfl (fun ls hl => ?_)
  refine lv_iload_n X.1 X.2.1 zd_Ji_bitCount_24 rfl (lv_at hl 0 rfl) ?_
  refine lv_iload_n X.1 X.2.1 zd_Ji_bitCount_25 rfl (lv_at hl 0 rfl) ?_
  refine lv_iconst (v := nI 4) X.1 X.2.1 zd_Ji_bitCount_26 (by decide) ?_
  refine lv_iushr (v := cUsh (((x - ((cUsh x 1) &&& 1431655765)) &&& 858993459) + ((cUsh (x - ((cUsh x 1) &&& 1431655765)) 2) &&& 858993459)) 4) X.1 X.2.1 zd_Ji_bitCount_27 rfl ?_
  refine lv_iadd X.1 X.2.1 zd_Ji_bitCount_28 ?_
  refine lv_ldcw (v := 252645135) X.1 X.2.1 X.2.2.1 (X.2.2.2.1 _ zw_204) zd_Ji_bitCount_29 ?_
  refine lv_iand X.1 X.2.1 zd_Ji_bitCount_32 ?_
  refine lv_istore_n (lv' := [(0, .int (((((x - ((cUsh x 1) &&& 1431655765)) &&& 858993459) + ((cUsh (x - ((cUsh x 1) &&& 1431655765)) 2) &&& 858993459)) + (cUsh (((x - ((cUsh x 1) &&& 1431655765)) &&& 858993459) + ((cUsh (x - ((cUsh x 1) &&& 1431655765)) 2) &&& 858993459)) 4)) &&& 252645135))]) X.1 X.2.1 zd_Ji_bitCount_33 rfl hl (by decide) rfl (fun ls hl => ?_)
  refine lv_iload_n X.1 X.2.1 zd_Ji_bitCount_34 rfl (lv_at hl 0 rfl) ?_
  refine lv_iload_n X.1 X.2.1 zd_Ji_bitCount_35 rfl (lv_at hl 0 rfl) ?_
  refine lv_bipush (v := nI 8) X.1 X.2.1 zd_Ji_bitCount_36 (by decide) ?_
  refine lv_iushr (v := cUsh (((((x - ((cUsh x 1) &&& 1431655765)) &&& 858993459) + ((cUsh (x - ((cUsh x 1) &&& 1431655765)) 2) &&& 858993459)) + (cUsh (((x - ((cUsh x 1) &&& 1431655765)) &&& 858993459) + ((cUsh (x - ((cUsh x 1) &&& 1431655765)) 2) &&& 858993459)) 4)) &&& 252645135) 8) X.1 X.2.1 zd_Ji_bitCount_38 rfl ?_
  refine lv_iadd X.1 X.2.1 zd_Ji_bitCount_39 ?_
  refine lv_istore_n (lv' := [(0, .int ((((((x - ((cUsh x 1) &&& 1431655765)) &&& 858993459) + ((cUsh (x - ((cUsh x 1) &&& 1431655765)) 2) &&& 858993459)) + (cUsh (((x - ((cUsh x 1) &&& 1431655765)) &&& 858993459) + ((cUsh (x - ((cUsh x 1) &&& 1431655765)) 2) &&& 858993459)) 4)) &&& 252645135) + (cUsh (((((x - ((cUsh x 1) &&& 1431655765)) &&& 858993459) + ((cUsh (x - ((cUsh x 1) &&& 1431655765)) 2) &&& 858993459)) + (cUsh (((x - ((cUsh x 1) &&& 1431655765)) &&& 858993459) + ((cUsh (x - ((cUsh x 1) &&& 1431655765)) 2) &&& 858993459)) 4)) &&& 252645135) 8)))]) X.1 X.2.1 zd_Ji_bitCount_40 rfl hl (by decide) rfl (fun ls hl => ?_)
  refine lv_iload_n X.1 X.2.1 zd_Ji_bitCount_41 rfl (lv_at hl 0 rfl) ?_
  refine lv_iload_n X.1 X.2.1 zd_Ji_bitCount_42 rfl (lv_at hl 0 rfl) ?_
  refine lv_bipush (v := nI 16) X.1 X.2.1 zd_Ji_bitCount_43 (by decide) ?_
  refine lv_iushr (v := cUsh ((((((x - ((cUsh x 1) &&& 1431655765)) &&& 858993459) + ((cUsh (x - ((cUsh x 1) &&& 1431655765)) 2) &&& 858993459)) + (cUsh (((x - ((cUsh x 1) &&& 1431655765)) &&& 858993459) + ((cUsh (x - ((cUsh x 1) &&& 1431655765)) 2) &&& 858993459)) 4)) &&& 252645135) + (cUsh (((((x - ((cUsh x 1) &&& 1431655765)) &&& 858993459) + ((cUsh (x - ((cUsh x 1) &&& 1431655765)) 2) &&& 858993459)) + (cUsh (((x - ((cUsh x 1) &&& 1431655765)) &&& 858993459) + ((cUsh (x - ((cUsh x 1) &&& 1431655765)) 2) &&& 858993459)) 4)) &&& 252645135) 8)) 16) X.1 X.2.1 zd_Ji_bitCount_45 rfl ?_
  refine lv_iadd X.1 X.2.1 zd_Ji_bitCount_46 ?_
  refine lv_istore_n (lv' := [(0, .int (((((((x - ((cUsh x 1) &&& 1431655765)) &&& 858993459) + ((cUsh (x - ((cUsh x 1) &&& 1431655765)) 2) &&& 858993459)) + (cUsh (((x - ((cUsh x 1) &&& 1431655765)) &&& 858993459) + ((cUsh (x - ((cUsh x 1) &&& 1431655765)) 2) &&& 858993459)) 4)) &&& 252645135) + (cUsh (((((x - ((cUsh x 1) &&& 1431655765)) &&& 858993459) + ((cUsh (x - ((cUsh x 1) &&& 1431655765)) 2) &&& 858993459)) + (cUsh (((x - ((cUsh x 1) &&& 1431655765)) &&& 858993459) + ((cUsh (x - ((cUsh x 1) &&& 1431655765)) 2) &&& 858993459)) 4)) &&& 252645135) 8)) + (cUsh ((((((x - ((cUsh x 1) &&& 1431655765)) &&& 858993459) + ((cUsh (x - ((cUsh x 1) &&& 1431655765)) 2) &&& 858993459)) + (cUsh (((x - ((cUsh x 1) &&& 1431655765)) &&& 858993459) + ((cUsh (x - ((cUsh x 1) &&& 1431655765)) 2) &&& 858993459)) 4)) &&& 252645135) + (cUsh (((((x - ((cUsh x 1) &&& 1431655765)) &&& 858993459) + ((cUsh (x - ((cUsh x 1) &&& 1431655765)) 2) &&& 858993459)) + (cUsh (((x - ((cUsh x 1) &&& 1431655765)) &&& 858993459) + ((cUsh (x - ((cUsh x 1) &&& 1431655765)) 2) &&& 858993459)) 4)) &&& 252645135) 8)) 16)))]) X.1 X.2.1 zd_Ji_bitCount_47 rfl hl (by decide) rfl (fun ls hl => ?_)
  refine lv_iload_n X.1 X.2.1 zd_Ji_bitCount_48 rfl (lv_at hl 0 rfl) ?_
  refine lv_bipush (v := nI 63) X.1 X.2.1 zd_Ji_bitCount_49 (by decide) ?_
  refine lv_iand X.1 X.2.1 zd_Ji_bitCount_51 ?_
  exact z_iret X.1 X.2.1 hr hlocks rfl rfl hP hS zd_Ji_bitCount_52

set_option maxHeartbeats 4000000 in
set_option maxRecDepth 100000 in
/-- Memory.forget: no name -/
theorem k_M_forget_n (l : Launch) (K : zK) (G : Nat → Nat) (A : Nat → Prop) (hD : ∀ σ, va_D A (cW K G σ)) (σ : cS) (t a : Nat) (ht : t < 20) (ha : a < 8) : zMet l K A zy_M_forget zws_M_forget 1 [.ref (G 3), .int (nI t), .int (nI a), .int (-1)] (cW K G σ) (cW K G (cForget3 σ t a)) none := by
  refine z_entry (by decide) (Nat.le_of_ble_eq_true rfl) ?_
  intro p e s m below meth c ls X hr hml hlocks hP hl
  have hS : va_S A s.heap s.heap [] := va_S.rf
  have hl : lv_has ls 5 [(0, .ref (G 3)), (1, .int (nI t)), (2, .int (nI a)), (3, .int (-1))] := hl
  refine lv_iload_n X.1 X.2.1 zd_M_forget_0 rfl (lv_at hl 1 rfl) ?_
  refine lv_iload_n X.1 X.2.1 zd_M_forget_1 rfl (lv_at hl 2 rfl) ?_
  refine z_callSi (As := [.int (nI t), .int (nI a)]) (rest := []) X hml (k_M_pair l K G A hD σ t a) (zk_M_37 X.2.2.2.1 (z_rm (by omega) (by decide))) hP hS rfl hl.1 rfl (Nat.le_of_ble_eq_true rfl) zd_M_forget_2 ⟨Nat.zero_le _, Nat.zero_le _⟩ (fun H locs hP hS => ?_)
  refine lv_istore (lv' := [(4, .int (nI (t * 8 + a))), (0, .ref (G 3)), (1, .int (nI t)), (2, .int (nI a)), (3, .int (-1))]) X.1 X.2.1 zd_M_forget_5 hl (by decide) rfl (fun ls hl => ?_)
  refine lv_aload_n X.1 X.2.1 zd_M_forget_7 rfl (lv_at hl 1 rfl) ?_
  refine lv_dup X.1 X.2.1 zd_M_forget_8 rfl ?_
  refine g_cM_nowDone X hP zd_M_forget_9 ?_
  refine lv_aload_n X.1 X.2.1 zd_M_forget_12 rfl (lv_at hl 1 rfl) ?_
  refine g_cM_doneSettings X hP zd_M_forget_13 ?_
  refine lv_iload X.1 X.2.1 zd_M_forget_16 (lv_at hl 0 rfl) ?_
  refine l_cM_doneSettings X hP (by omega) zd_M_forget_18 ?_
  refine z_callSi (As := [.int (cM_doneSettings σ (t * 8 + a))]) (rest := [.int (cM_nowDone σ), .ref (G 3)]) X hml (k_Ji_bitCount l K G A hD σ (cM_doneSettings σ (t * 8 + a))) (zk_M_45 X.2.2.2.1 (z_rm (by omega) (by decide))) hP hS rfl hl.1 rfl (Nat.le_of_ble_eq_true rfl) zd_M_forget_19 ⟨Nat.zero_le _, Nat.zero_le _⟩ (fun H locs hP hS => ?_)
  refine lv_isub X.1 X.2.1 zd_M_forget_22 ?_
  refine s_cM_nowDone X hD hP hS zd_M_forget_23 (fun H locs hP hS => ?_)
  have hP : va_P K.1 zcl (cW K G (p_cM_nowDone σ ((cM_nowDone σ) - (cBit (cM_doneSettings σ (t * 8 + a)))))) H := hP
  refine lv_aload_n X.1 X.2.1 zd_M_forget_26 rfl (lv_at hl 1 rfl) ?_
  refine g_cM_doneSettings X hP zd_M_forget_27 ?_
  refine lv_iload X.1 X.2.1 zd_M_forget_30 (lv_at hl 0 rfl) ?_
  refine lv_iconst (v := nI 0) X.1 X.2.1 zd_M_forget_32 (by decide) ?_
  refine s_cM_doneSettings X hD hP hS (by omega) zd_M_forget_33 (fun H locs hP hS => ?_)
  have hP : va_P K.1 zcl (cW K G (p_cM_doneSettings (p_cM_nowDone σ ((cM_nowDone σ) - (cBit (cM_doneSettings σ (t * 8 + a))))) (upd (cM_doneSettings σ) (t * 8 + a) (nI 0)))) H := hP
  refine lv_aload_n X.1 X.2.1 zd_M_forget_34 rfl (lv_at hl 1 rfl) ?_
  refine g_cM_passedSettings X hP zd_M_forget_35 ?_
  refine lv_iload X.1 X.2.1 zd_M_forget_38 (lv_at hl 0 rfl) ?_
  refine lv_iconst (v := nI 0) X.1 X.2.1 zd_M_forget_40 (by decide) ?_
  refine s_cM_passedSettings X hD hP hS (by omega) zd_M_forget_41 (fun H locs hP hS => ?_)
  have hP : va_P K.1 zcl (cW K G (p_cM_passedSettings (p_cM_doneSettings (p_cM_nowDone σ ((cM_nowDone σ) - (cBit (cM_doneSettings σ (t * 8 + a))))) (upd (cM_doneSettings σ) (t * 8 + a) (nI 0))) (upd (cM_passedSettings σ) (t * 8 + a) (nI 0)))) H := hP
  refine lv_iload_n X.1 X.2.1 zd_M_forget_42 rfl (lv_at hl 4 rfl) ?_
  refine lv_iconst (v := -1) X.1 X.2.1 zd_M_forget_43 (by decide) ?_
  refine lv_icmp_eq (tgt := 69) X.1 X.2.1 zd_M_forget_44 (by decide) (fun _ => ?_) (fun h9 => absurd rfl h9)
  exact z_vret X.1 X.2.1 hr hlocks rfl hP hS zd_M_forget_69

set_option maxHeartbeats 4000000 in
set_option maxRecDepth 100000 in
/-- Memory.forget: a name -/
theorem k_M_forget_q (l : Launch) (K : zK) (G : Nat → Nat) (A : Nat → Prop) (hD : ∀ σ, va_D A (cW K G σ)) (σ : cS) (t a q : Nat) (ht : t < 20) (ha : a < 8) (hq : q < 10) : zMet l K A zy_M_forget zws_M_forget 1 [.ref (G 3), .int (nI t), .int (nI a), .int (nI q)] (cW K G σ) (cW K G (cForgetQ σ t a q)) none := by
  refine z_entry (by decide) (Nat.le_of_ble_eq_true rfl) ?_
  intro p e s m below meth c ls X hr hml hlocks hP hl
  have hS : va_S A s.heap s.heap [] := va_S.rf
  have hl : lv_has ls 5 [(0, .ref (G 3)), (1, .int (nI t)), (2, .int (nI a)), (3, .int (nI q))] := hl
  refine lv_iload_n X.1 X.2.1 zd_M_forget_0 rfl (lv_at hl 1 rfl) ?_
  refine lv_iload_n X.1 X.2.1 zd_M_forget_1 rfl (lv_at hl 2 rfl) ?_
  refine z_callSi (As := [.int (nI t), .int (nI a)]) (rest := []) X hml (k_M_pair l K G A hD σ t a) (zk_M_37 X.2.2.2.1 (z_rm (by omega) (by decide))) hP hS rfl hl.1 rfl (Nat.le_of_ble_eq_true rfl) zd_M_forget_2 ⟨Nat.zero_le _, Nat.zero_le _⟩ (fun H locs hP hS => ?_)
  refine lv_istore (lv' := [(4, .int (nI (t * 8 + a))), (0, .ref (G 3)), (1, .int (nI t)), (2, .int (nI a)), (3, .int (nI q))]) X.1 X.2.1 zd_M_forget_5 hl (by decide) rfl (fun ls hl => ?_)
  refine lv_aload_n X.1 X.2.1 zd_M_forget_7 rfl (lv_at hl 1 rfl) ?_
  refine lv_dup X.1 X.2.1 zd_M_forget_8 rfl ?_
  refine g_cM_nowDone X hP zd_M_forget_9 ?_
  refine lv_aload_n X.1 X.2.1 zd_M_forget_12 rfl (lv_at hl 1 rfl) ?_
  refine g_cM_doneSettings X hP zd_M_forget_13 ?_
  refine lv_iload X.1 X.2.1 zd_M_forget_16 (lv_at hl 0 rfl) ?_
  refine l_cM_doneSettings X hP (by omega) zd_M_forget_18 ?_
  refine z_callSi (As := [.int (cM_doneSettings σ (t * 8 + a))]) (rest := [.int (cM_nowDone σ), .ref (G 3)]) X hml (k_Ji_bitCount l K G A hD σ (cM_doneSettings σ (t * 8 + a))) (zk_M_45 X.2.2.2.1 (z_rm (by omega) (by decide))) hP hS rfl hl.1 rfl (Nat.le_of_ble_eq_true rfl) zd_M_forget_19 ⟨Nat.zero_le _, Nat.zero_le _⟩ (fun H locs hP hS => ?_)
  refine lv_isub X.1 X.2.1 zd_M_forget_22 ?_
  refine s_cM_nowDone X hD hP hS zd_M_forget_23 (fun H locs hP hS => ?_)
  have hP : va_P K.1 zcl (cW K G (p_cM_nowDone σ ((cM_nowDone σ) - (cBit (cM_doneSettings σ (t * 8 + a)))))) H := hP
  refine lv_aload_n X.1 X.2.1 zd_M_forget_26 rfl (lv_at hl 1 rfl) ?_
  refine g_cM_doneSettings X hP zd_M_forget_27 ?_
  refine lv_iload X.1 X.2.1 zd_M_forget_30 (lv_at hl 0 rfl) ?_
  refine lv_iconst (v := nI 0) X.1 X.2.1 zd_M_forget_32 (by decide) ?_
  refine s_cM_doneSettings X hD hP hS (by omega) zd_M_forget_33 (fun H locs hP hS => ?_)
  have hP : va_P K.1 zcl (cW K G (p_cM_doneSettings (p_cM_nowDone σ ((cM_nowDone σ) - (cBit (cM_doneSettings σ (t * 8 + a))))) (upd (cM_doneSettings σ) (t * 8 + a) (nI 0)))) H := hP
  refine lv_aload_n X.1 X.2.1 zd_M_forget_34 rfl (lv_at hl 1 rfl) ?_
  refine g_cM_passedSettings X hP zd_M_forget_35 ?_
  refine lv_iload X.1 X.2.1 zd_M_forget_38 (lv_at hl 0 rfl) ?_
  refine lv_iconst (v := nI 0) X.1 X.2.1 zd_M_forget_40 (by decide) ?_
  refine s_cM_passedSettings X hD hP hS (by omega) zd_M_forget_41 (fun H locs hP hS => ?_)
  have hP : va_P K.1 zcl (cW K G (p_cM_passedSettings (p_cM_doneSettings (p_cM_nowDone σ ((cM_nowDone σ) - (cBit (cM_doneSettings σ (t * 8 + a))))) (upd (cM_doneSettings σ) (t * 8 + a) (nI 0))) (upd (cM_passedSettings σ) (t * 8 + a) (nI 0)))) H := hP
  refine lv_iload_n X.1 X.2.1 zd_M_forget_42 rfl (lv_at hl 4 rfl) ?_
  refine lv_iconst (v := -1) X.1 X.2.1 zd_M_forget_43 (by decide) ?_
  refine lv_icmp_eq (tgt := 69) X.1 X.2.1 zd_M_forget_44 (by decide) (fun h9 => absurd h9 (by intro h; have := congrArg Int32.toInt h; rw [nI_toInt (by omega)] at this; simp at this)) (fun _ => ?_)
  refine lv_aload_n X.1 X.2.1 zd_M_forget_47 rfl (lv_at hl 1 rfl) ?_
  refine lv_iload_n X.1 X.2.1 zd_M_forget_48 rfl (lv_at hl 2 rfl) ?_
  refine lv_iload_n X.1 X.2.1 zd_M_forget_49 rfl (lv_at hl 4 rfl) ?_
  refine z_callVi (As := [.int (nI t), .int (nI q)]) (rest := []) (q0 := 3) (ci := 2) X hml (k_M_makerOf l K G A hD (p_cM_passedSettings (p_cM_doneSettings (p_cM_nowDone σ ((cM_nowDone σ) - (cBit (cM_doneSettings σ (t * 8 + a))))) (upd (cM_doneSettings σ) (t * 8 + a) (nI 0))) (upd (cM_passedSettings σ) (t * 8 + a) (nI 0))) t q (by omega) (by omega)) (zk_M_51 X.2.2.2.1 (z_rm (by omega) (by decide))) rfl rfl rfl hP hS rfl hl.1 rfl (Nat.le_of_ble_eq_true rfl) zd_M_forget_50 ⟨Nat.zero_le _, Nat.zero_le _⟩ (fun H locs hP hS => ?_)
  refine lv_iload_n X.1 X.2.1 zd_M_forget_53 rfl (lv_at hl 3 rfl) ?_
  refine lv_icmp_ne (tgt := 69) X.1 X.2.1 zd_M_forget_54 (by decide) (fun c1 => ?_) (fun c1 => ?_)
  · exact z_vret X.1 X.2.1 hr hlocks (by unfold cForgetQ; rw [if_neg (show ¬ cM_makers σ (t * 10 + q) = nI a from c1)]; rfl) hP hS zd_M_forget_69
  · refine lv_aload_n X.1 X.2.1 zd_M_forget_57 rfl (lv_at hl 1 rfl) ?_
    refine g_cM_makers X hP zd_M_forget_58 ?_
    refine lv_iload_n X.1 X.2.1 zd_M_forget_61 rfl (lv_at hl 2 rfl) ?_
    refine lv_bipush (v := nI 10) X.1 X.2.1 zd_M_forget_62 (by decide) ?_
    refine lv_imul X.1 X.2.1 zd_M_forget_64 ?_
    refine z_top (pk_mul _ _) ?_
    refine lv_iload_n X.1 X.2.1 zd_M_forget_65 rfl (lv_at hl 4 rfl) ?_
    refine lv_iadd X.1 X.2.1 zd_M_forget_66 ?_
    refine z_top (nI_add _ _) ?_
    refine lv_iconst (v := -1) X.1 X.2.1 zd_M_forget_67 (by decide) ?_
    refine s_cM_makers X hD hP hS (by omega) zd_M_forget_68 (fun H locs hP hS => ?_)
    have hP : va_P K.1 zcl (cW K G (p_cM_makers (p_cM_passedSettings (p_cM_doneSettings (p_cM_nowDone σ ((cM_nowDone σ) - (cBit (cM_doneSettings σ (t * 8 + a))))) (upd (cM_doneSettings σ) (t * 8 + a) (nI 0))) (upd (cM_passedSettings σ) (t * 8 + a) (nI 0))) (upd (cM_makers σ) ((t * 10) + q) (-1)))) H := hP
    exact z_vret X.1 X.2.1 hr hlocks (by unfold cForgetQ; rw [if_pos (show cM_makers σ (t * 10 + q) = nI a from c1)]; rfl) hP hS zd_M_forget_69

theorem k_M_forget (l : Launch) (K : zK) (G : Nat → Nat) (A : Nat → Prop) (hD : ∀ σ, va_D A (cW K G σ)) (σ : cS) (t a : Nat) (nm : Int32) (ht : t < 20) (ha : a < 8) (hn : nm = -1 ∨ ∃ q, q < 10 ∧ nm = nI q) : zMet l K A zy_M_forget zws_M_forget 1 [.ref (G 3), .int (nI t), .int (nI a), .int nm] (cW K G σ) (cW K G (cForget σ t a nm)) none := by
  rcases hn with rfl | ⟨q, hq, rfl⟩
  · have h := k_M_forget_n l K G A hD σ t a ht ha
    rw [show cForget σ t a (-1) = cForget3 σ t a by simp [cForget]]
    exact h
  · have h := k_M_forget_q l K G A hD σ t a q ht ha hq
    have hne : ¬ nI q = -1 := by intro h; have := congrArg Int32.toInt h; rw [nI_toInt (by omega)] at this; simp at this
    rw [show cForget σ t a (nI q) = cForgetQ σ t a q by simp [cForget, hne, nI_clamp (show q < 2 ^ 31 by omega)]]
    exact h

set_option maxHeartbeats 4000000 in
set_option maxRecDepth 100000 in
/-- isAsked(x, y, z) -/
theorem k_W_isAsked (l : Launch) (K : zK) (G : Nat → Nat) (A : Nat → Prop) (hD : ∀ σ, va_D A (cW K G σ)) (σ : cS) (x y z : Int32) : zMet l K A zy_W_isAsked zws_W_isAsked 1 [.ref (G 0), .int x, .int y, .int z] (cW K G σ) (cW K G σ) (some (.int (nI (cAsked σ x y z)))) := by
  refine z_entry (by decide) (Nat.le_of_ble_eq_true rfl) ?_
  intro p e s m below meth c ls X hr hml hlocks hP hl
  have hS : va_S A s.heap s.heap [] := va_S.rf
  have hl : lv_has ls 4 [(0, .ref (G 0)), (1, .int x), (2, .int y), (3, .int z)] := hl
  refine lv_aload_n X.1 X.2.1 zd_W_isAsked_0 rfl (lv_at hl 0 rfl) ?_
  refine g_cW_targets X hP zd_W_isAsked_1 ?_
  refine lv_iload_n X.1 X.2.1 zd_W_isAsked_4 rfl (lv_at hl 1 rfl) ?_
  refine z_callVi (As := [.int x]) (rest := []) (q0 := 1) (ci := 0) X hml (k_T_has l K G A hD σ x) (zk_W_44 X.2.2.2.1 (z_rm (by omega) (by decide))) rfl rfl rfl hP hS rfl hl.1 rfl (Nat.le_of_ble_eq_true rfl) zd_W_isAsked_5 ⟨Nat.zero_le _, Nat.zero_le _⟩ (fun H locs hP hS => ?_)
  refine lv_if_eq (tgt := 36) X.1 X.2.1 zd_W_isAsked_8 (by decide) (fun c1 => ?_) (fun c1 => ?_)
  · rw [z_eq0 (cHas_lt _ _)] at c1
    refine lv_iconst (v := nI 0) X.1 X.2.1 zd_W_isAsked_36 (by decide) ?_
    exact z_zret X.1 X.2.1 hr hlocks (Or.inl rfl) (by simp [cAsked, *]) rfl hP hS zd_W_isAsked_37
  · rw [z_eq0 (cHas_lt _ _)] at c1
    refine lv_aload_n X.1 X.2.1 zd_W_isAsked_11 rfl (lv_at hl 0 rfl) ?_
    refine g_cW_aspects X hP zd_W_isAsked_12 ?_
    refine lv_iload_n X.1 X.2.1 zd_W_isAsked_15 rfl (lv_at hl 2 rfl) ?_
    refine z_callVi (As := [.int y]) (rest := []) (q0 := 2) (ci := 1) X hml (k_A_has l K G A hD σ y) (zk_W_73 X.2.2.2.1 (z_rm (by omega) (by decide))) rfl rfl rfl hP hS rfl hl.1 rfl (Nat.le_of_ble_eq_true rfl) zd_W_isAsked_16 ⟨Nat.zero_le _, Nat.zero_le _⟩ (fun H locs hP hS => ?_)
    refine lv_if_eq (tgt := 36) X.1 X.2.1 zd_W_isAsked_19 (by decide) (fun c2 => ?_) (fun c2 => ?_)
    · rw [z_eq0 (cHas_lt _ _)] at c2
      refine lv_iconst (v := nI 0) X.1 X.2.1 zd_W_isAsked_36 (by decide) ?_
      exact z_zret X.1 X.2.1 hr hlocks (Or.inl rfl) (by simp [cAsked, *]) rfl hP hS zd_W_isAsked_37
    · rw [z_eq0 (cHas_lt _ _)] at c2
      refine lv_iload_n X.1 X.2.1 zd_W_isAsked_22 rfl (lv_at hl 3 rfl) ?_
      refine lv_if_lt (tgt := 36) X.1 X.2.1 zd_W_isAsked_23 (by decide) (fun c3 => ?_) (fun c3 => ?_)
      · refine lv_iconst (v := nI 0) X.1 X.2.1 zd_W_isAsked_36 (by decide) ?_
        exact z_zret X.1 X.2.1 hr hlocks (Or.inl rfl) (by simp [cAsked, *]) rfl hP hS zd_W_isAsked_37
      · refine lv_iload_n X.1 X.2.1 zd_W_isAsked_26 rfl (lv_at hl 3 rfl) ?_
        refine lv_bipush (v := nI 16) X.1 X.2.1 zd_W_isAsked_27 (by decide) ?_
        refine lv_icmp_ge (tgt := 36) X.1 X.2.1 zd_W_isAsked_29 (by decide) (fun c4 => ?_) (fun c4 => ?_)
        · refine lv_iconst (v := nI 0) X.1 X.2.1 zd_W_isAsked_36 (by decide) ?_
          exact z_zret X.1 X.2.1 hr hlocks (Or.inl rfl) (by simp [cAsked, *]) rfl hP hS zd_W_isAsked_37
        · refine lv_iconst (v := nI 1) X.1 X.2.1 zd_W_isAsked_32 (by decide) ?_
          refine lv_goto (tgt := 37) X.1 X.2.1 zd_W_isAsked_33 (by decide) ?_
          exact z_zret X.1 X.2.1 hr hlocks (Or.inr rfl) (by simp [cAsked, *]) rfl hP hS zd_W_isAsked_37

set_option maxHeartbeats 4000000 in
set_option maxRecDepth 100000 in
/-- lengthAlong(t, a, z) -/
theorem k_W_lengthAlong (l : Launch) (K : zK) (G : Nat → Nat) (A : Nat → Prop) (hD : ∀ σ, va_D A (cW K G σ)) (σ : cS) (t a z : Nat) (ht : t < 20) (ha : a < 8) (hz : z < 3) : zMet l K A zy_W_lengthAlong zws_W_lengthAlong 1 [.ref (G 0), .int (nI t), .int (nI a), .int (nI z)] (cW K G σ) (cW K G σ) (some (.int (nI (cLen σ t a z)))) := by
  refine z_entry (by decide) (Nat.le_of_ble_eq_true rfl) ?_
  intro p e s m below meth c ls X hr hml hlocks hP hl
  have hS : va_S A s.heap s.heap [] := va_S.rf
  have hl : lv_has ls 4 [(0, .ref (G 0)), (1, .int (nI t)), (2, .int (nI a)), (3, .int (nI z))] := hl
  refine lv_aload_n X.1 X.2.1 zd_W_lengthAlong_0 rfl (lv_at hl 0 rfl) ?_
  refine g_cW_aspects X hP zd_W_lengthAlong_1 ?_
  refine lv_iload_n X.1 X.2.1 zd_W_lengthAlong_4 rfl (lv_at hl 2 rfl) ?_
  refine lv_iload_n X.1 X.2.1 zd_W_lengthAlong_5 rfl (lv_at hl 3 rfl) ?_
  refine z_callVi (As := [.int (nI a), .int (nI z)]) (rest := []) (q0 := 2) (ci := 1) X hml (k_A_goesAlong l K G A hD σ a z (by omega)) (zk_W_161 X.2.2.2.1 (z_rm (by omega) (by decide))) rfl rfl rfl hP hS rfl hl.1 rfl (Nat.le_of_ble_eq_true rfl) zd_W_lengthAlong_6 ⟨Nat.zero_le _, Nat.zero_le _⟩ (fun H locs hP hS => ?_)
  refine lv_if_eq (tgt := 24) X.1 X.2.1 zd_W_lengthAlong_9 (by decide) (fun c1 => ?_) (fun c1 => ?_)
  · rw [z_eq0 (cLead_lt _ _)] at c1
    refine lv_iconst (v := nI 0) X.1 X.2.1 zd_W_lengthAlong_24 (by decide) ?_
    exact z_iret X.1 X.2.1 hr hlocks (by simp [cLen, *]) rfl hP hS zd_W_lengthAlong_25
  · rw [z_eq0 (cLead_lt _ _)] at c1
    refine lv_aload_n X.1 X.2.1 zd_W_lengthAlong_12 rfl (lv_at hl 0 rfl) ?_
    refine g_cW_targets X hP zd_W_lengthAlong_13 ?_
    refine lv_iload_n X.1 X.2.1 zd_W_lengthAlong_16 rfl (lv_at hl 1 rfl) ?_
    refine lv_iload_n X.1 X.2.1 zd_W_lengthAlong_17 rfl (lv_at hl 3 rfl) ?_
    refine z_callVi (As := [.int (nI t), .int (nI z)]) (rest := []) (q0 := 1) (ci := 0) X hml (k_T_rowLength l K G A hD σ t z (by omega) (by omega)) (zk_W_164 X.2.2.2.1 (z_rm (by omega) (by decide))) rfl rfl rfl hP hS rfl hl.1 rfl (Nat.le_of_ble_eq_true rfl) zd_W_lengthAlong_18 ⟨Nat.zero_le _, Nat.zero_le _⟩ (fun H locs hP hS => ?_)
    refine lv_goto (tgt := 25) X.1 X.2.1 zd_W_lengthAlong_21 (by decide) ?_
    exact z_iret X.1 X.2.1 hr hlocks (by simp [cLen, *]) rfl hP hS zd_W_lengthAlong_25

set_option maxHeartbeats 4000000 in
set_option maxRecDepth 100000 in
/-- joinPart, kind 0 -/
theorem k_W_joinPart_0 (l : Launch) (K : zK) (G : Nat → Nat) (A : Nat → Prop) (hD : ∀ σ, va_D A (cW K G σ)) (σ : cS) (x : Int64) (t a k : Nat) (ht : t < 20) (ha : a < 8) (hk : k < 16) : zMet l K A zy_W_joinPart zws_W_joinPart 2 [.ref (G 0), .int (nI 0), .long x, .int (nI t), .int (nI a), .int (nI k)] (cW K G σ) (cW K G σ) (some (.long (cJoinPart σ 0 x t a k))) := by
  refine z_entry (by decide) (Nat.le_of_ble_eq_true rfl) ?_
  intro p e s m below meth c ls X hr hml hlocks hP hl
  have hS : va_S A s.heap s.heap [] := va_S.rf
  have hl : lv_has ls 9 [(0, .ref (G 0)), (1, .int (nI 0)), (2, .long x), (4, .int (nI t)), (5, .int (nI a)), (6, .int (nI k))] := hl
  refine lv_aload_n X.1 X.2.1 zd_W_joinPart_0 rfl (lv_at hl 0 rfl) ?_
  refine g_cW_memory X hP zd_W_joinPart_1 ?_
  refine lv_iload X.1 X.2.1 zd_W_joinPart_4 (lv_at hl 3 rfl) ?_
  refine lv_iload X.1 X.2.1 zd_W_joinPart_6 (lv_at hl 4 rfl) ?_
  refine lv_iload X.1 X.2.1 zd_W_joinPart_8 (lv_at hl 5 rfl) ?_
  refine z_callVi (As := [.int (nI t), .int (nI a), .int (nI k)]) (rest := []) (q0 := 3) (ci := 2) X hml (k_M_known l K G A hD σ t a k (by omega) (by omega) (by omega)) (zk_W_98 X.2.2.2.1 (z_rm (by omega) (by decide))) rfl rfl rfl hP hS rfl hl.1 rfl (Nat.le_of_ble_eq_true rfl) zd_W_joinPart_10 ⟨Nat.zero_le _, Nat.zero_le _⟩ (fun H locs hP hS => ?_)
  refine lv_iconst (v := nI 1) X.1 X.2.1 zd_W_joinPart_13 (by decide) ?_
  refine lv_icmp_eq (tgt := 19) X.1 X.2.1 zd_W_joinPart_14 (by decide) (fun c1 => ?_) (fun c1 => ?_)
  · refine lv_aload_n X.1 X.2.1 zd_W_joinPart_19 rfl (lv_at hl 0 rfl) ?_
    refine g_cW_memory X hP zd_W_joinPart_20 ?_
    refine lv_iload X.1 X.2.1 zd_W_joinPart_23 (lv_at hl 3 rfl) ?_
    refine lv_iload X.1 X.2.1 zd_W_joinPart_25 (lv_at hl 4 rfl) ?_
    refine lv_iload X.1 X.2.1 zd_W_joinPart_27 (lv_at hl 5 rfl) ?_
    refine z_callVl (As := [.int (nI t), .int (nI a), .int (nI k)]) (rest := []) (q0 := 3) (ci := 2) X hml (k_M_resultOf l K G A hD σ t a k (by omega) (by omega) (by omega)) (zk_W_114 X.2.2.2.1 (z_rm (by omega) (by decide))) rfl rfl rfl hP hS rfl hl.1 rfl (Nat.le_of_ble_eq_true rfl) zd_W_joinPart_29 ⟨Nat.zero_le _, Nat.zero_le _⟩ (fun H locs hP hS => ?_)
    refine lv_lstore (lv' := [(7, .long (cM_results σ ((t * 8 + a) * 16 + k))), (0, .ref (G 0)), (1, .int (nI 0)), (2, .long x), (4, .int (nI t)), (5, .int (nI a)), (6, .int (nI k))]) X.1 X.2.1 zd_W_joinPart_32 hl (by decide) rfl (fun ls hl => ?_)
    refine lv_iload_n X.1 X.2.1 zd_W_joinPart_34 rfl (lv_at hl 2 rfl) ?_
    refine lv_lookup (off := 41) (tgt := 76) X.1 X.2.1 zd_W_joinPart_35 (by decide) (by decide) (by decide) ?_
    refine lv_lload_n X.1 X.2.1 zd_W_joinPart_76 rfl (lv_at hl 3 rfl) ?_
    refine lv_lload X.1 X.2.1 zd_W_joinPart_77 (lv_at hl 0 rfl) ?_
    refine lv_ladd X.1 X.2.1 zd_W_joinPart_79 ?_
    exact z_lret X.1 X.2.1 hr hlocks (by simp [cJoinPart, cJoin, cMax, *]) rfl hP hS zd_W_joinPart_80
  · refine lv_lload_n X.1 X.2.1 zd_W_joinPart_17 rfl (lv_at hl 2 rfl) ?_
    exact z_lret X.1 X.2.1 hr hlocks (by simp [cJoinPart, cJoin, cMax, *]) rfl hP hS zd_W_joinPart_18

set_option maxHeartbeats 4000000 in
set_option maxRecDepth 100000 in
/-- joinPart, kind 1 -/
theorem k_W_joinPart_1 (l : Launch) (K : zK) (G : Nat → Nat) (A : Nat → Prop) (hD : ∀ σ, va_D A (cW K G σ)) (σ : cS) (x : Int64) (t a k : Nat) (ht : t < 20) (ha : a < 8) (hk : k < 16) : zMet l K A zy_W_joinPart zws_W_joinPart 2 [.ref (G 0), .int (nI 1), .long x, .int (nI t), .int (nI a), .int (nI k)] (cW K G σ) (cW K G σ) (some (.long (cJoinPart σ 1 x t a k))) := by
  refine z_entry (by decide) (Nat.le_of_ble_eq_true rfl) ?_
  intro p e s m below meth c ls X hr hml hlocks hP hl
  have hS : va_S A s.heap s.heap [] := va_S.rf
  have hl : lv_has ls 9 [(0, .ref (G 0)), (1, .int (nI 1)), (2, .long x), (4, .int (nI t)), (5, .int (nI a)), (6, .int (nI k))] := hl
  refine lv_aload_n X.1 X.2.1 zd_W_joinPart_0 rfl (lv_at hl 0 rfl) ?_
  refine g_cW_memory X hP zd_W_joinPart_1 ?_
  refine lv_iload X.1 X.2.1 zd_W_joinPart_4 (lv_at hl 3 rfl) ?_
  refine lv_iload X.1 X.2.1 zd_W_joinPart_6 (lv_at hl 4 rfl) ?_
  refine lv_iload X.1 X.2.1 zd_W_joinPart_8 (lv_at hl 5 rfl) ?_
  refine z_callVi (As := [.int (nI t), .int (nI a), .int (nI k)]) (rest := []) (q0 := 3) (ci := 2) X hml (k_M_known l K G A hD σ t a k (by omega) (by omega) (by omega)) (zk_W_98 X.2.2.2.1 (z_rm (by omega) (by decide))) rfl rfl rfl hP hS rfl hl.1 rfl (Nat.le_of_ble_eq_true rfl) zd_W_joinPart_10 ⟨Nat.zero_le _, Nat.zero_le _⟩ (fun H locs hP hS => ?_)
  refine lv_iconst (v := nI 1) X.1 X.2.1 zd_W_joinPart_13 (by decide) ?_
  refine lv_icmp_eq (tgt := 19) X.1 X.2.1 zd_W_joinPart_14 (by decide) (fun c1 => ?_) (fun c1 => ?_)
  · refine lv_aload_n X.1 X.2.1 zd_W_joinPart_19 rfl (lv_at hl 0 rfl) ?_
    refine g_cW_memory X hP zd_W_joinPart_20 ?_
    refine lv_iload X.1 X.2.1 zd_W_joinPart_23 (lv_at hl 3 rfl) ?_
    refine lv_iload X.1 X.2.1 zd_W_joinPart_25 (lv_at hl 4 rfl) ?_
    refine lv_iload X.1 X.2.1 zd_W_joinPart_27 (lv_at hl 5 rfl) ?_
    refine z_callVl (As := [.int (nI t), .int (nI a), .int (nI k)]) (rest := []) (q0 := 3) (ci := 2) X hml (k_M_resultOf l K G A hD σ t a k (by omega) (by omega) (by omega)) (zk_W_114 X.2.2.2.1 (z_rm (by omega) (by decide))) rfl rfl rfl hP hS rfl hl.1 rfl (Nat.le_of_ble_eq_true rfl) zd_W_joinPart_29 ⟨Nat.zero_le _, Nat.zero_le _⟩ (fun H locs hP hS => ?_)
    refine lv_lstore (lv' := [(7, .long (cM_results σ ((t * 8 + a) * 16 + k))), (0, .ref (G 0)), (1, .int (nI 1)), (2, .long x), (4, .int (nI t)), (5, .int (nI a)), (6, .int (nI k))]) X.1 X.2.1 zd_W_joinPart_32 hl (by decide) rfl (fun ls hl => ?_)
    refine lv_iload_n X.1 X.2.1 zd_W_joinPart_34 rfl (lv_at hl 2 rfl) ?_
    refine lv_lookup (off := 25) (tgt := 60) X.1 X.2.1 zd_W_joinPart_35 (by decide) (by decide) (by decide) ?_
    refine lv_lload_n X.1 X.2.1 zd_W_joinPart_60 rfl (lv_at hl 3 rfl) ?_
    refine lv_lload X.1 X.2.1 zd_W_joinPart_61 (lv_at hl 0 rfl) ?_
    refine va_mmax_long X.1 X.2.1 (hml.trans hl.1.symm) X.2.2.1 (X.2.2.2.1 _ zw_356) (X.2.2.2.1 _ zw_357) (X.2.2.2.1 _ zw_8) (X.2.2.2.1 _ zw_358) (Nat.le_of_ble_eq_true rfl) (Nat.le_of_ble_eq_true rfl) (Nat.zero_le _) (Nat.zero_le _) zd_W_joinPart_63 ?_
    exact z_lret X.1 X.2.1 hr hlocks (by simp [cJoinPart, cJoin, cMax, *]) rfl hP hS zd_W_joinPart_66
  · refine lv_lload_n X.1 X.2.1 zd_W_joinPart_17 rfl (lv_at hl 2 rfl) ?_
    exact z_lret X.1 X.2.1 hr hlocks (by simp [cJoinPart, cJoin, cMax, *]) rfl hP hS zd_W_joinPart_18

set_option maxHeartbeats 4000000 in
set_option maxRecDepth 100000 in
/-- joinPart, kind 2 -/
theorem k_W_joinPart_2 (l : Launch) (K : zK) (G : Nat → Nat) (A : Nat → Prop) (hD : ∀ σ, va_D A (cW K G σ)) (σ : cS) (x : Int64) (t a k : Nat) (ht : t < 20) (ha : a < 8) (hk : k < 16) : zMet l K A zy_W_joinPart zws_W_joinPart 2 [.ref (G 0), .int (nI 2), .long x, .int (nI t), .int (nI a), .int (nI k)] (cW K G σ) (cW K G σ) (some (.long (cJoinPart σ 2 x t a k))) := by
  refine z_entry (by decide) (Nat.le_of_ble_eq_true rfl) ?_
  intro p e s m below meth c ls X hr hml hlocks hP hl
  have hS : va_S A s.heap s.heap [] := va_S.rf
  have hl : lv_has ls 9 [(0, .ref (G 0)), (1, .int (nI 2)), (2, .long x), (4, .int (nI t)), (5, .int (nI a)), (6, .int (nI k))] := hl
  refine lv_aload_n X.1 X.2.1 zd_W_joinPart_0 rfl (lv_at hl 0 rfl) ?_
  refine g_cW_memory X hP zd_W_joinPart_1 ?_
  refine lv_iload X.1 X.2.1 zd_W_joinPart_4 (lv_at hl 3 rfl) ?_
  refine lv_iload X.1 X.2.1 zd_W_joinPart_6 (lv_at hl 4 rfl) ?_
  refine lv_iload X.1 X.2.1 zd_W_joinPart_8 (lv_at hl 5 rfl) ?_
  refine z_callVi (As := [.int (nI t), .int (nI a), .int (nI k)]) (rest := []) (q0 := 3) (ci := 2) X hml (k_M_known l K G A hD σ t a k (by omega) (by omega) (by omega)) (zk_W_98 X.2.2.2.1 (z_rm (by omega) (by decide))) rfl rfl rfl hP hS rfl hl.1 rfl (Nat.le_of_ble_eq_true rfl) zd_W_joinPart_10 ⟨Nat.zero_le _, Nat.zero_le _⟩ (fun H locs hP hS => ?_)
  refine lv_iconst (v := nI 1) X.1 X.2.1 zd_W_joinPart_13 (by decide) ?_
  refine lv_icmp_eq (tgt := 19) X.1 X.2.1 zd_W_joinPart_14 (by decide) (fun c1 => ?_) (fun c1 => ?_)
  · refine lv_aload_n X.1 X.2.1 zd_W_joinPart_19 rfl (lv_at hl 0 rfl) ?_
    refine g_cW_memory X hP zd_W_joinPart_20 ?_
    refine lv_iload X.1 X.2.1 zd_W_joinPart_23 (lv_at hl 3 rfl) ?_
    refine lv_iload X.1 X.2.1 zd_W_joinPart_25 (lv_at hl 4 rfl) ?_
    refine lv_iload X.1 X.2.1 zd_W_joinPart_27 (lv_at hl 5 rfl) ?_
    refine z_callVl (As := [.int (nI t), .int (nI a), .int (nI k)]) (rest := []) (q0 := 3) (ci := 2) X hml (k_M_resultOf l K G A hD σ t a k (by omega) (by omega) (by omega)) (zk_W_114 X.2.2.2.1 (z_rm (by omega) (by decide))) rfl rfl rfl hP hS rfl hl.1 rfl (Nat.le_of_ble_eq_true rfl) zd_W_joinPart_29 ⟨Nat.zero_le _, Nat.zero_le _⟩ (fun H locs hP hS => ?_)
    refine lv_lstore (lv' := [(7, .long (cM_results σ ((t * 8 + a) * 16 + k))), (0, .ref (G 0)), (1, .int (nI 2)), (2, .long x), (4, .int (nI t)), (5, .int (nI a)), (6, .int (nI k))]) X.1 X.2.1 zd_W_joinPart_32 hl (by decide) rfl (fun ls hl => ?_)
    refine lv_iload_n X.1 X.2.1 zd_W_joinPart_34 rfl (lv_at hl 2 rfl) ?_
    refine lv_lookup (off := 32) (tgt := 67) X.1 X.2.1 zd_W_joinPart_35 (by decide) (by decide) (by decide) ?_
    refine lv_ldc2 (v := 31) X.1 X.2.1 X.2.2.1 (X.2.2.2.1 _ zw_359) zd_W_joinPart_67 ?_
    refine lv_lload_n X.1 X.2.1 zd_W_joinPart_70 rfl (lv_at hl 3 rfl) ?_
    refine lv_lmul X.1 X.2.1 zd_W_joinPart_71 ?_
    refine lv_lload X.1 X.2.1 zd_W_joinPart_72 (lv_at hl 0 rfl) ?_
    refine lv_ladd X.1 X.2.1 zd_W_joinPart_74 ?_
    exact z_lret X.1 X.2.1 hr hlocks (by simp [cJoinPart, cJoin, cMax, *]) rfl hP hS zd_W_joinPart_75
  · refine lv_lload_n X.1 X.2.1 zd_W_joinPart_17 rfl (lv_at hl 2 rfl) ?_
    exact z_lret X.1 X.2.1 hr hlocks (by simp [cJoinPart, cJoin, cMax, *]) rfl hP hS zd_W_joinPart_18

set_option maxHeartbeats 4000000 in
set_option maxRecDepth 100000 in
/-- joinPart, kind 3 -/
theorem k_W_joinPart_3 (l : Launch) (K : zK) (G : Nat → Nat) (A : Nat → Prop) (hD : ∀ σ, va_D A (cW K G σ)) (σ : cS) (x : Int64) (t a k : Nat) (ht : t < 20) (ha : a < 8) (hk : k < 16) : zMet l K A zy_W_joinPart zws_W_joinPart 2 [.ref (G 0), .int (nI 3), .long x, .int (nI t), .int (nI a), .int (nI k)] (cW K G σ) (cW K G σ) (some (.long (cJoinPart σ 3 x t a k))) := by
  refine z_entry (by decide) (Nat.le_of_ble_eq_true rfl) ?_
  intro p e s m below meth c ls X hr hml hlocks hP hl
  have hS : va_S A s.heap s.heap [] := va_S.rf
  have hl : lv_has ls 9 [(0, .ref (G 0)), (1, .int (nI 3)), (2, .long x), (4, .int (nI t)), (5, .int (nI a)), (6, .int (nI k))] := hl
  refine lv_aload_n X.1 X.2.1 zd_W_joinPart_0 rfl (lv_at hl 0 rfl) ?_
  refine g_cW_memory X hP zd_W_joinPart_1 ?_
  refine lv_iload X.1 X.2.1 zd_W_joinPart_4 (lv_at hl 3 rfl) ?_
  refine lv_iload X.1 X.2.1 zd_W_joinPart_6 (lv_at hl 4 rfl) ?_
  refine lv_iload X.1 X.2.1 zd_W_joinPart_8 (lv_at hl 5 rfl) ?_
  refine z_callVi (As := [.int (nI t), .int (nI a), .int (nI k)]) (rest := []) (q0 := 3) (ci := 2) X hml (k_M_known l K G A hD σ t a k (by omega) (by omega) (by omega)) (zk_W_98 X.2.2.2.1 (z_rm (by omega) (by decide))) rfl rfl rfl hP hS rfl hl.1 rfl (Nat.le_of_ble_eq_true rfl) zd_W_joinPart_10 ⟨Nat.zero_le _, Nat.zero_le _⟩ (fun H locs hP hS => ?_)
  refine lv_iconst (v := nI 1) X.1 X.2.1 zd_W_joinPart_13 (by decide) ?_
  refine lv_icmp_eq (tgt := 19) X.1 X.2.1 zd_W_joinPart_14 (by decide) (fun c1 => ?_) (fun c1 => ?_)
  · refine lv_aload_n X.1 X.2.1 zd_W_joinPart_19 rfl (lv_at hl 0 rfl) ?_
    refine g_cW_memory X hP zd_W_joinPart_20 ?_
    refine lv_iload X.1 X.2.1 zd_W_joinPart_23 (lv_at hl 3 rfl) ?_
    refine lv_iload X.1 X.2.1 zd_W_joinPart_25 (lv_at hl 4 rfl) ?_
    refine lv_iload X.1 X.2.1 zd_W_joinPart_27 (lv_at hl 5 rfl) ?_
    refine z_callVl (As := [.int (nI t), .int (nI a), .int (nI k)]) (rest := []) (q0 := 3) (ci := 2) X hml (k_M_resultOf l K G A hD σ t a k (by omega) (by omega) (by omega)) (zk_W_114 X.2.2.2.1 (z_rm (by omega) (by decide))) rfl rfl rfl hP hS rfl hl.1 rfl (Nat.le_of_ble_eq_true rfl) zd_W_joinPart_29 ⟨Nat.zero_le _, Nat.zero_le _⟩ (fun H locs hP hS => ?_)
    refine lv_lstore (lv' := [(7, .long (cM_results σ ((t * 8 + a) * 16 + k))), (0, .ref (G 0)), (1, .int (nI 3)), (2, .long x), (4, .int (nI t)), (5, .int (nI a)), (6, .int (nI k))]) X.1 X.2.1 zd_W_joinPart_32 hl (by decide) rfl (fun ls hl => ?_)
    refine lv_iload_n X.1 X.2.1 zd_W_joinPart_34 rfl (lv_at hl 2 rfl) ?_
    refine lv_lookup (off := 41) (tgt := 76) X.1 X.2.1 zd_W_joinPart_35 (by decide) (by decide) (by decide) ?_
    refine lv_lload_n X.1 X.2.1 zd_W_joinPart_76 rfl (lv_at hl 3 rfl) ?_
    refine lv_lload X.1 X.2.1 zd_W_joinPart_77 (lv_at hl 0 rfl) ?_
    refine lv_ladd X.1 X.2.1 zd_W_joinPart_79 ?_
    exact z_lret X.1 X.2.1 hr hlocks (by simp [cJoinPart, cJoin, cMax, *]) rfl hP hS zd_W_joinPart_80
  · refine lv_lload_n X.1 X.2.1 zd_W_joinPart_17 rfl (lv_at hl 2 rfl) ?_
    exact z_lret X.1 X.2.1 hr hlocks (by simp [cJoinPart, cJoin, cMax, *]) rfl hP hS zd_W_joinPart_18

theorem k_W_joinPart (l : Launch) (K : zK) (G : Nat → Nat) (A : Nat → Prop) (hD : ∀ σ, va_D A (cW K G σ)) (σ : cS) (kd : Nat) (x : Int64) (t a k : Nat) (hkd : kd ≤ 3) (ht : t < 20) (ha : a < 8) (hk : k < 16) : zMet l K A zy_W_joinPart zws_W_joinPart 2 [.ref (G 0), .int (nI kd), .long x, .int (nI t), .int (nI a), .int (nI k)] (cW K G σ) (cW K G σ) (some (.long (cJoinPart σ kd x t a k))) := by
  rcases (show kd = 0 ∨ kd = 1 ∨ kd = 2 ∨ kd = 3 by omega) with rfl | rfl | rfl | rfl
  · exact k_W_joinPart_0 l K G A hD σ x t a k ht ha hk
  · exact k_W_joinPart_1 l K G A hD σ x t a k ht ha hk
  · exact k_W_joinPart_2 l K G A hD σ x t a k ht ha hk
  · exact k_W_joinPart_3 l K G A hD σ x t a k ht ha hk

