/-! the law's cases (by program: wip/gen/law.py) -/

set_option maxHeartbeats 4000000 in
set_option maxRecDepth 100000 in
/-- target -/
theorem law_0 {p : Program} {l : Launch} {e : Env} {s : State} {m : MethodId} {below : List Frame} {meth : Method} {c : Code} {H : Heap} {locs : List Loc} {cells slots : Nat} {Q : State → Prop} {ls : Array Slot} {K : zK} {GC GM : Nat → Nat} {AC AM : Nat → Prop} {o b L i : Nat} {xs : Nat → Int32} {σ : cS} {mm : mS} {f : Nat → Int64} (F : lC l K GC GM AC AM o b L xs p s m c) (hL : L ≤ 3072) (hi : i + 6 ≤ L) (hcs : cells + 1 ≤ room_1.cells ∧ slots + 6 ≤ room_1.slots) (hR : Rel σ mm) (hPC : va_P K.1 zcl (cW K GC σ) H) (hPM : va_P K.1 zcl (mW K GM mm) H) (hPO : va_P K.1 zcl (lO K o f) H) (hS : va_S (lA s) s.heap H locs) (hl : lv_has ls 8 (lLv b i o GC GM))
    (kont : ∀ (σ : cS) (mm : mS) (f : Nat → Int64) (H : Heap) (locs : List Loc) (ls : Array Slot), Rel σ mm → va_P K.1 zcl (cW K GC σ) H → va_P K.1 zcl (mW K GM mm) H → va_P K.1 zcl (lO K o f) H → va_S (lA s) s.heap H locs → lv_has ls 8 (lLv b i o GC GM) → W p l e room_1 s m #[.ref b] below meth c H locs (cells + 1) (slots + 6) Q (F0 m 760 ls [])) : W p l e room_1 s m #[.ref b] below meth c H locs cells slots Q (F0 m 112 ls []) := by
  obtain ⟨X, hml, hX, hbl, hth, htr, hC, hM, hcm, hco, hmo, haC, haM, haO⟩ := F
  obtain ⟨kc, km, r, σ2, m2, hkc, hkm, hcC, hcM, hR2⟩ := op_target (l := l) hC hM hR ((((xs (i + 1)).toInt64 <<< ((nI 32).toInt64 &&& 63)) ||| ((xs (i + 2)).toInt64 &&& 4294967295))) (xs (i + 3))
  refine lv_aload_n X.1 X.2.1 zd_L_law_112 rfl (lv_at hl 3 rfl) ?_
  refine lv_aload_n X.1 X.2.1 zd_L_law_113 rfl (lv_at hl 4 rfl) ?_
  refine lv_iload X.1 X.2.1 zd_L_law_114 (lv_at hl 0 rfl) ?_
  refine lv_iconst (v := nI 1) X.1 X.2.1 zd_L_law_116 (by decide) ?_
  refine lv_iadd X.1 X.2.1 zd_L_law_117 ?_
  refine z_top (nI_add _ _) ?_
  refine z_sld X hX hbl hS (by omega) hL zd_L_law_118 ?_
  refine lv_i2l (v := (xs (i + 1)).toInt64) X.1 X.2.1 zd_L_law_119 rfl ?_
  refine lv_bipush (v := nI 32) X.1 X.2.1 zd_L_law_120 (by decide) ?_
  refine lv_lshl (v := (xs (i + 1)).toInt64 <<< ((nI 32).toInt64 &&& 63)) X.1 X.2.1 zd_L_law_122 rfl ?_
  refine lv_aload_n X.1 X.2.1 zd_L_law_123 rfl (lv_at hl 4 rfl) ?_
  refine lv_iload X.1 X.2.1 zd_L_law_124 (lv_at hl 0 rfl) ?_
  refine lv_iconst (v := nI 2) X.1 X.2.1 zd_L_law_126 (by decide) ?_
  refine lv_iadd X.1 X.2.1 zd_L_law_127 ?_
  refine z_top (nI_add _ _) ?_
  refine z_sld X hX hbl hS (by omega) hL zd_L_law_128 ?_
  refine lv_i2l (v := (xs (i + 2)).toInt64) X.1 X.2.1 zd_L_law_129 rfl ?_
  refine lv_ldc2 (v := 4294967295) X.1 X.2.1 X.2.2.1 (X.2.2.2.1 _ zw_708) zd_L_law_130 ?_
  refine lv_land X.1 X.2.1 zd_L_law_133 ?_
  refine lv_lor X.1 X.2.1 zd_L_law_134 ?_
  refine lv_aload_n X.1 X.2.1 zd_L_law_135 rfl (lv_at hl 4 rfl) ?_
  refine lv_iload X.1 X.2.1 zd_L_law_136 (lv_at hl 0 rfl) ?_
  refine lv_iconst (v := nI 3) X.1 X.2.1 zd_L_law_138 (by decide) ?_
  refine lv_iadd X.1 X.2.1 zd_L_law_139 ?_
  refine z_top (nI_add _ _) ?_
  refine z_sld X hX hbl hS (by omega) hL zd_L_law_140 ?_
  refine z_callPi (A1 := AC) (As := [.long ((((xs (i + 1)).toInt64 <<< ((nI 32).toInt64 &&& 63)) ||| ((xs (i + 2)).toInt64 &&& 4294967295))), .int (xs (i + 3))]) (rest := []) (q0 := 0) (ci := 3) X hml hcC (zk_L_23 X.2.2.2.1 (z_rmL hkc (by decide))) rfl rfl rfl hPC haC hS rfl hl.1 rfl (Nat.le_of_ble_eq_true rfl) zd_L_law_141 ⟨Nat.le_of_succ_le hcs.1, by omega⟩ (fun H locs hPC hz hk9 hS => ?_)
  have hPM := lk_MC hM hcm hk9 hPM
  have hPO := lk_O hco hk9 hPO
  refine lv_aload_n X.1 X.2.1 zd_L_law_144 rfl (lv_at hl 2 rfl) ?_
  refine lv_aload_n X.1 X.2.1 zd_L_law_145 rfl (lv_at hl 4 rfl) ?_
  refine lv_iload X.1 X.2.1 zd_L_law_146 (lv_at hl 0 rfl) ?_
  refine lv_iconst (v := nI 1) X.1 X.2.1 zd_L_law_148 (by decide) ?_
  refine lv_iadd X.1 X.2.1 zd_L_law_149 ?_
  refine z_top (nI_add _ _) ?_
  refine z_sld X hX hbl hS (by omega) hL zd_L_law_150 ?_
  refine lv_i2l (v := (xs (i + 1)).toInt64) X.1 X.2.1 zd_L_law_151 rfl ?_
  refine lv_bipush (v := nI 32) X.1 X.2.1 zd_L_law_152 (by decide) ?_
  refine lv_lshl (v := (xs (i + 1)).toInt64 <<< ((nI 32).toInt64 &&& 63)) X.1 X.2.1 zd_L_law_154 rfl ?_
  refine lv_aload_n X.1 X.2.1 zd_L_law_155 rfl (lv_at hl 4 rfl) ?_
  refine lv_iload X.1 X.2.1 zd_L_law_156 (lv_at hl 0 rfl) ?_
  refine lv_iconst (v := nI 2) X.1 X.2.1 zd_L_law_158 (by decide) ?_
  refine lv_iadd X.1 X.2.1 zd_L_law_159 ?_
  refine z_top (nI_add _ _) ?_
  refine z_sld X hX hbl hS (by omega) hL zd_L_law_160 ?_
  refine lv_i2l (v := (xs (i + 2)).toInt64) X.1 X.2.1 zd_L_law_161 rfl ?_
  refine lv_ldc2 (v := 4294967295) X.1 X.2.1 X.2.2.1 (X.2.2.2.1 _ zw_708) zd_L_law_162 ?_
  refine lv_land X.1 X.2.1 zd_L_law_165 ?_
  refine lv_lor X.1 X.2.1 zd_L_law_166 ?_
  refine lv_aload_n X.1 X.2.1 zd_L_law_167 rfl (lv_at hl 4 rfl) ?_
  refine lv_iload X.1 X.2.1 zd_L_law_168 (lv_at hl 0 rfl) ?_
  refine lv_iconst (v := nI 3) X.1 X.2.1 zd_L_law_170 (by decide) ?_
  refine lv_iadd X.1 X.2.1 zd_L_law_171 ?_
  refine z_top (nI_add _ _) ?_
  refine z_sld X hX hbl hS (by omega) hL zd_L_law_172 ?_
  refine z_callPi (A1 := AM) (As := [.long ((((xs (i + 1)).toInt64 <<< ((nI 32).toInt64 &&& 63)) ||| ((xs (i + 2)).toInt64 &&& 4294967295))), .int (xs (i + 3))]) (rest := [.int r]) (q0 := 0) (ci := 4) X hml hcM (zk_L_27 X.2.2.2.1 (z_rmL hkm (by decide))) rfl rfl rfl hPM haM hS rfl hl.1 rfl (Nat.le_of_ble_eq_true rfl) zd_L_law_173 ⟨Nat.le_of_succ_le hcs.1, by omega⟩ (fun H locs hPM hz hk9 hS => ?_)
  have hPC := lk_CM hC hcm hk9 hPC
  have hPO := lk_O hmo hk9 hPO
  refine lv_icmp_eq (tgt := 760) X.1 X.2.1 zd_L_law_176 (by decide) (fun _ => ?_) (fun h9 => absurd rfl h9)
  exact W.widen (by omega) (by omega) (kont σ2 m2 f H locs ls hR2 hPC hPM hPO hS hl)

set_option maxHeartbeats 4000000 in
set_option maxRecDepth 100000 in
/-- alias -/
theorem law_1 {p : Program} {l : Launch} {e : Env} {s : State} {m : MethodId} {below : List Frame} {meth : Method} {c : Code} {H : Heap} {locs : List Loc} {cells slots : Nat} {Q : State → Prop} {ls : Array Slot} {K : zK} {GC GM : Nat → Nat} {AC AM : Nat → Prop} {o b L i : Nat} {xs : Nat → Int32} {σ : cS} {mm : mS} {f : Nat → Int64} (F : lC l K GC GM AC AM o b L xs p s m c) (hL : L ≤ 3072) (hi : i + 6 ≤ L) (hcs : cells + 1 ≤ room_1.cells ∧ slots + 6 ≤ room_1.slots) (hR : Rel σ mm) (hPC : va_P K.1 zcl (cW K GC σ) H) (hPM : va_P K.1 zcl (mW K GM mm) H) (hPO : va_P K.1 zcl (lO K o f) H) (hS : va_S (lA s) s.heap H locs) (hl : lv_has ls 8 (lLv b i o GC GM))
    (kont : ∀ (σ : cS) (mm : mS) (f : Nat → Int64) (H : Heap) (locs : List Loc) (ls : Array Slot), Rel σ mm → va_P K.1 zcl (cW K GC σ) H → va_P K.1 zcl (mW K GM mm) H → va_P K.1 zcl (lO K o f) H → va_S (lA s) s.heap H locs → lv_has ls 8 (lLv b i o GC GM) → W p l e room_1 s m #[.ref b] below meth c H locs (cells + 1) (slots + 6) Q (F0 m 760 ls [])) : W p l e room_1 s m #[.ref b] below meth c H locs cells slots Q (F0 m 181 ls []) := by
  obtain ⟨X, hml, hX, hbl, hth, htr, hC, hM, hcm, hco, hmo, haC, haM, haO⟩ := F
  obtain ⟨kc, km, r, σ2, m2, hkc, hkm, hcC, hcM, hR2⟩ := op_alias (l := l) hC hM hR (xs (i + 1))
  refine lv_aload_n X.1 X.2.1 zd_L_law_181 rfl (lv_at hl 3 rfl) ?_
  refine lv_aload_n X.1 X.2.1 zd_L_law_182 rfl (lv_at hl 4 rfl) ?_
  refine lv_iload X.1 X.2.1 zd_L_law_183 (lv_at hl 0 rfl) ?_
  refine lv_iconst (v := nI 1) X.1 X.2.1 zd_L_law_185 (by decide) ?_
  refine lv_iadd X.1 X.2.1 zd_L_law_186 ?_
  refine z_top (nI_add _ _) ?_
  refine z_sld X hX hbl hS (by omega) hL zd_L_law_187 ?_
  refine z_callPi (A1 := AC) (As := [.int (xs (i + 1))]) (rest := []) (q0 := 0) (ci := 3) X hml hcC (zk_L_28 X.2.2.2.1 (z_rmL hkc (by decide))) rfl rfl rfl hPC haC hS rfl hl.1 rfl (Nat.le_of_ble_eq_true rfl) zd_L_law_188 ⟨Nat.le_of_succ_le hcs.1, by omega⟩ (fun H locs hPC hz hk9 hS => ?_)
  have hPM := lk_MC hM hcm hk9 hPM
  have hPO := lk_O hco hk9 hPO
  refine lv_aload_n X.1 X.2.1 zd_L_law_191 rfl (lv_at hl 2 rfl) ?_
  refine lv_aload_n X.1 X.2.1 zd_L_law_192 rfl (lv_at hl 4 rfl) ?_
  refine lv_iload X.1 X.2.1 zd_L_law_193 (lv_at hl 0 rfl) ?_
  refine lv_iconst (v := nI 1) X.1 X.2.1 zd_L_law_195 (by decide) ?_
  refine lv_iadd X.1 X.2.1 zd_L_law_196 ?_
  refine z_top (nI_add _ _) ?_
  refine z_sld X hX hbl hS (by omega) hL zd_L_law_197 ?_
  refine z_callPi (A1 := AM) (As := [.int (xs (i + 1))]) (rest := [.int r]) (q0 := 0) (ci := 4) X hml hcM (zk_L_32 X.2.2.2.1 (z_rmL hkm (by decide))) rfl rfl rfl hPM haM hS rfl hl.1 rfl (Nat.le_of_ble_eq_true rfl) zd_L_law_198 ⟨Nat.le_of_succ_le hcs.1, by omega⟩ (fun H locs hPM hz hk9 hS => ?_)
  have hPC := lk_CM hC hcm hk9 hPC
  have hPO := lk_O hmo hk9 hPO
  refine lv_icmp_eq (tgt := 760) X.1 X.2.1 zd_L_law_201 (by decide) (fun _ => ?_) (fun h9 => absurd rfl h9)
  exact W.widen (by omega) (by omega) (kont σ2 m2 f H locs ls hR2 hPC hPM hPO hS hl)

set_option maxHeartbeats 4000000 in
set_option maxRecDepth 100000 in
/-- stands -/
theorem law_2 {p : Program} {l : Launch} {e : Env} {s : State} {m : MethodId} {below : List Frame} {meth : Method} {c : Code} {H : Heap} {locs : List Loc} {cells slots : Nat} {Q : State → Prop} {ls : Array Slot} {K : zK} {GC GM : Nat → Nat} {AC AM : Nat → Prop} {o b L i : Nat} {xs : Nat → Int32} {σ : cS} {mm : mS} {f : Nat → Int64} (F : lC l K GC GM AC AM o b L xs p s m c) (hL : L ≤ 3072) (hi : i + 6 ≤ L) (hcs : cells + 1 ≤ room_1.cells ∧ slots + 6 ≤ room_1.slots) (hR : Rel σ mm) (hPC : va_P K.1 zcl (cW K GC σ) H) (hPM : va_P K.1 zcl (mW K GM mm) H) (hPO : va_P K.1 zcl (lO K o f) H) (hS : va_S (lA s) s.heap H locs) (hl : lv_has ls 8 (lLv b i o GC GM))
    (kont : ∀ (σ : cS) (mm : mS) (f : Nat → Int64) (H : Heap) (locs : List Loc) (ls : Array Slot), Rel σ mm → va_P K.1 zcl (cW K GC σ) H → va_P K.1 zcl (mW K GM mm) H → va_P K.1 zcl (lO K o f) H → va_S (lA s) s.heap H locs → lv_has ls 8 (lLv b i o GC GM) → W p l e room_1 s m #[.ref b] below meth c H locs (cells + 1) (slots + 6) Q (F0 m 760 ls [])) : W p l e room_1 s m #[.ref b] below meth c H locs cells slots Q (F0 m 206 ls []) := by
  obtain ⟨X, hml, hX, hbl, hth, htr, hC, hM, hcm, hco, hmo, haC, haM, haO⟩ := F
  obtain ⟨kc, km, r, σ2, m2, hkc, hkm, hcC, hcM, hR2⟩ := op_stands (l := l) hC hM hR (xs (i + 1))
  refine lv_aload_n X.1 X.2.1 zd_L_law_206 rfl (lv_at hl 3 rfl) ?_
  refine lv_aload_n X.1 X.2.1 zd_L_law_207 rfl (lv_at hl 4 rfl) ?_
  refine lv_iload X.1 X.2.1 zd_L_law_208 (lv_at hl 0 rfl) ?_
  refine lv_iconst (v := nI 1) X.1 X.2.1 zd_L_law_210 (by decide) ?_
  refine lv_iadd X.1 X.2.1 zd_L_law_211 ?_
  refine z_top (nI_add _ _) ?_
  refine z_sld X hX hbl hS (by omega) hL zd_L_law_212 ?_
  refine z_callPi (A1 := AC) (As := [.int (xs (i + 1))]) (rest := []) (q0 := 0) (ci := 3) X hml hcC (zk_L_33 X.2.2.2.1 (z_rmL hkc (by decide))) rfl rfl rfl hPC haC hS rfl hl.1 rfl (Nat.le_of_ble_eq_true rfl) zd_L_law_213 ⟨Nat.le_of_succ_le hcs.1, by omega⟩ (fun H locs hPC hz hk9 hS => ?_)
  have hPM := lk_MC hM hcm hk9 hPM
  have hPO := lk_O hco hk9 hPO
  refine lv_aload_n X.1 X.2.1 zd_L_law_216 rfl (lv_at hl 2 rfl) ?_
  refine lv_aload_n X.1 X.2.1 zd_L_law_217 rfl (lv_at hl 4 rfl) ?_
  refine lv_iload X.1 X.2.1 zd_L_law_218 (lv_at hl 0 rfl) ?_
  refine lv_iconst (v := nI 1) X.1 X.2.1 zd_L_law_220 (by decide) ?_
  refine lv_iadd X.1 X.2.1 zd_L_law_221 ?_
  refine z_top (nI_add _ _) ?_
  refine z_sld X hX hbl hS (by omega) hL zd_L_law_222 ?_
  refine z_callPi (A1 := AM) (As := [.int (xs (i + 1))]) (rest := [.int r]) (q0 := 0) (ci := 4) X hml hcM (zk_L_36 X.2.2.2.1 (z_rmL hkm (by decide))) rfl rfl rfl hPM haM hS rfl hl.1 rfl (Nat.le_of_ble_eq_true rfl) zd_L_law_223 ⟨Nat.le_of_succ_le hcs.1, by omega⟩ (fun H locs hPM hz hk9 hS => ?_)
  have hPC := lk_CM hC hcm hk9 hPC
  have hPO := lk_O hmo hk9 hPO
  refine lv_icmp_eq (tgt := 760) X.1 X.2.1 zd_L_law_226 (by decide) (fun _ => ?_) (fun h9 => absurd rfl h9)
  exact W.widen (by omega) (by omega) (kont σ2 m2 f H locs ls hR2 hPC hPM hPO hS hl)

set_option maxHeartbeats 4000000 in
set_option maxRecDepth 100000 in
/-- add -/
theorem law_3 {p : Program} {l : Launch} {e : Env} {s : State} {m : MethodId} {below : List Frame} {meth : Method} {c : Code} {H : Heap} {locs : List Loc} {cells slots : Nat} {Q : State → Prop} {ls : Array Slot} {K : zK} {GC GM : Nat → Nat} {AC AM : Nat → Prop} {o b L i : Nat} {xs : Nat → Int32} {σ : cS} {mm : mS} {f : Nat → Int64} (F : lC l K GC GM AC AM o b L xs p s m c) (hL : L ≤ 3072) (hi : i + 6 ≤ L) (hcs : cells + 1 ≤ room_1.cells ∧ slots + 6 ≤ room_1.slots) (hR : Rel σ mm) (hPC : va_P K.1 zcl (cW K GC σ) H) (hPM : va_P K.1 zcl (mW K GM mm) H) (hPO : va_P K.1 zcl (lO K o f) H) (hS : va_S (lA s) s.heap H locs) (hl : lv_has ls 8 (lLv b i o GC GM))
    (kont : ∀ (σ : cS) (mm : mS) (f : Nat → Int64) (H : Heap) (locs : List Loc) (ls : Array Slot), Rel σ mm → va_P K.1 zcl (cW K GC σ) H → va_P K.1 zcl (mW K GM mm) H → va_P K.1 zcl (lO K o f) H → va_S (lA s) s.heap H locs → lv_has ls 8 (lLv b i o GC GM) → W p l e room_1 s m #[.ref b] below meth c H locs (cells + 1) (slots + 6) Q (F0 m 760 ls [])) : W p l e room_1 s m #[.ref b] below meth c H locs cells slots Q (F0 m 231 ls []) := by
  obtain ⟨X, hml, hX, hbl, hth, htr, hC, hM, hcm, hco, hmo, haC, haM, haO⟩ := F
  obtain ⟨kc, km, r, σ2, m2, hkc, hkm, hcC, hcM, hR2⟩ := op_add (l := l) hC hM hR (xs (i + 1)) (xs (i + 2)) (xs (i + 3))
  refine lv_aload_n X.1 X.2.1 zd_L_law_231 rfl (lv_at hl 3 rfl) ?_
  refine lv_aload_n X.1 X.2.1 zd_L_law_232 rfl (lv_at hl 4 rfl) ?_
  refine lv_iload X.1 X.2.1 zd_L_law_233 (lv_at hl 0 rfl) ?_
  refine lv_iconst (v := nI 1) X.1 X.2.1 zd_L_law_235 (by decide) ?_
  refine lv_iadd X.1 X.2.1 zd_L_law_236 ?_
  refine z_top (nI_add _ _) ?_
  refine z_sld X hX hbl hS (by omega) hL zd_L_law_237 ?_
  refine lv_aload_n X.1 X.2.1 zd_L_law_238 rfl (lv_at hl 4 rfl) ?_
  refine lv_iload X.1 X.2.1 zd_L_law_239 (lv_at hl 0 rfl) ?_
  refine lv_iconst (v := nI 2) X.1 X.2.1 zd_L_law_241 (by decide) ?_
  refine lv_iadd X.1 X.2.1 zd_L_law_242 ?_
  refine z_top (nI_add _ _) ?_
  refine z_sld X hX hbl hS (by omega) hL zd_L_law_243 ?_
  refine lv_aload_n X.1 X.2.1 zd_L_law_244 rfl (lv_at hl 4 rfl) ?_
  refine lv_iload X.1 X.2.1 zd_L_law_245 (lv_at hl 0 rfl) ?_
  refine lv_iconst (v := nI 3) X.1 X.2.1 zd_L_law_247 (by decide) ?_
  refine lv_iadd X.1 X.2.1 zd_L_law_248 ?_
  refine z_top (nI_add _ _) ?_
  refine z_sld X hX hbl hS (by omega) hL zd_L_law_249 ?_
  refine z_callPi (A1 := AC) (As := [.int (xs (i + 1)), .int (xs (i + 2)), .int (xs (i + 3))]) (rest := []) (q0 := 0) (ci := 3) X hml hcC (zk_L_37 X.2.2.2.1 (z_rmL hkc (by decide))) rfl rfl rfl hPC haC hS rfl hl.1 rfl (Nat.le_of_ble_eq_true rfl) zd_L_law_250 ⟨Nat.le_of_succ_le hcs.1, by omega⟩ (fun H locs hPC hz hk9 hS => ?_)
  have hPM := lk_MC hM hcm hk9 hPM
  have hPO := lk_O hco hk9 hPO
  refine lv_aload_n X.1 X.2.1 zd_L_law_253 rfl (lv_at hl 2 rfl) ?_
  refine lv_aload_n X.1 X.2.1 zd_L_law_254 rfl (lv_at hl 4 rfl) ?_
  refine lv_iload X.1 X.2.1 zd_L_law_255 (lv_at hl 0 rfl) ?_
  refine lv_iconst (v := nI 1) X.1 X.2.1 zd_L_law_257 (by decide) ?_
  refine lv_iadd X.1 X.2.1 zd_L_law_258 ?_
  refine z_top (nI_add _ _) ?_
  refine z_sld X hX hbl hS (by omega) hL zd_L_law_259 ?_
  refine lv_aload_n X.1 X.2.1 zd_L_law_260 rfl (lv_at hl 4 rfl) ?_
  refine lv_iload X.1 X.2.1 zd_L_law_261 (lv_at hl 0 rfl) ?_
  refine lv_iconst (v := nI 2) X.1 X.2.1 zd_L_law_263 (by decide) ?_
  refine lv_iadd X.1 X.2.1 zd_L_law_264 ?_
  refine z_top (nI_add _ _) ?_
  refine z_sld X hX hbl hS (by omega) hL zd_L_law_265 ?_
  refine lv_aload_n X.1 X.2.1 zd_L_law_266 rfl (lv_at hl 4 rfl) ?_
  refine lv_iload X.1 X.2.1 zd_L_law_267 (lv_at hl 0 rfl) ?_
  refine lv_iconst (v := nI 3) X.1 X.2.1 zd_L_law_269 (by decide) ?_
  refine lv_iadd X.1 X.2.1 zd_L_law_270 ?_
  refine z_top (nI_add _ _) ?_
  refine z_sld X hX hbl hS (by omega) hL zd_L_law_271 ?_
  refine z_callPi (A1 := AM) (As := [.int (xs (i + 1)), .int (xs (i + 2)), .int (xs (i + 3))]) (rest := [.int r]) (q0 := 0) (ci := 4) X hml hcM (zk_L_41 X.2.2.2.1 (z_rmL hkm (by decide))) rfl rfl rfl hPM haM hS rfl hl.1 rfl (Nat.le_of_ble_eq_true rfl) zd_L_law_272 ⟨Nat.le_of_succ_le hcs.1, by omega⟩ (fun H locs hPM hz hk9 hS => ?_)
  have hPC := lk_CM hC hcm hk9 hPC
  have hPO := lk_O hmo hk9 hPO
  refine lv_icmp_eq (tgt := 760) X.1 X.2.1 zd_L_law_275 (by decide) (fun _ => ?_) (fun h9 => absurd rfl h9)
  exact W.widen (by omega) (by omega) (kont σ2 m2 f H locs ls hR2 hPC hPM hPO hS hl)

set_option maxHeartbeats 4000000 in
set_option maxRecDepth 100000 in
/-- change -/
theorem law_4 {p : Program} {l : Launch} {e : Env} {s : State} {m : MethodId} {below : List Frame} {meth : Method} {c : Code} {H : Heap} {locs : List Loc} {cells slots : Nat} {Q : State → Prop} {ls : Array Slot} {K : zK} {GC GM : Nat → Nat} {AC AM : Nat → Prop} {o b L i : Nat} {xs : Nat → Int32} {σ : cS} {mm : mS} {f : Nat → Int64} (F : lC l K GC GM AC AM o b L xs p s m c) (hL : L ≤ 3072) (hi : i + 6 ≤ L) (hcs : cells + 1 ≤ room_1.cells ∧ slots + 6 ≤ room_1.slots) (hR : Rel σ mm) (hPC : va_P K.1 zcl (cW K GC σ) H) (hPM : va_P K.1 zcl (mW K GM mm) H) (hPO : va_P K.1 zcl (lO K o f) H) (hS : va_S (lA s) s.heap H locs) (hl : lv_has ls 8 (lLv b i o GC GM))
    (kont : ∀ (σ : cS) (mm : mS) (f : Nat → Int64) (H : Heap) (locs : List Loc) (ls : Array Slot), Rel σ mm → va_P K.1 zcl (cW K GC σ) H → va_P K.1 zcl (mW K GM mm) H → va_P K.1 zcl (lO K o f) H → va_S (lA s) s.heap H locs → lv_has ls 8 (lLv b i o GC GM) → W p l e room_1 s m #[.ref b] below meth c H locs (cells + 1) (slots + 6) Q (F0 m 760 ls [])) : W p l e room_1 s m #[.ref b] below meth c H locs cells slots Q (F0 m 280 ls []) := by
  obtain ⟨X, hml, hX, hbl, hth, htr, hC, hM, hcm, hco, hmo, haC, haM, haO⟩ := F
  obtain ⟨kc, km, r, σ2, m2, hkc, hkm, hcC, hcM, hR2⟩ := op_change (l := l) hC hM hR (xs (i + 1)) ((((xs (i + 2)).toInt64 <<< ((nI 32).toInt64 &&& 63)) ||| ((xs (i + 3)).toInt64 &&& 4294967295))) (xs (i + 4))
  refine lv_aload_n X.1 X.2.1 zd_L_law_280 rfl (lv_at hl 3 rfl) ?_
  refine lv_aload_n X.1 X.2.1 zd_L_law_281 rfl (lv_at hl 4 rfl) ?_
  refine lv_iload X.1 X.2.1 zd_L_law_282 (lv_at hl 0 rfl) ?_
  refine lv_iconst (v := nI 1) X.1 X.2.1 zd_L_law_284 (by decide) ?_
  refine lv_iadd X.1 X.2.1 zd_L_law_285 ?_
  refine z_top (nI_add _ _) ?_
  refine z_sld X hX hbl hS (by omega) hL zd_L_law_286 ?_
  refine lv_aload_n X.1 X.2.1 zd_L_law_287 rfl (lv_at hl 4 rfl) ?_
  refine lv_iload X.1 X.2.1 zd_L_law_288 (lv_at hl 0 rfl) ?_
  refine lv_iconst (v := nI 2) X.1 X.2.1 zd_L_law_290 (by decide) ?_
  refine lv_iadd X.1 X.2.1 zd_L_law_291 ?_
  refine z_top (nI_add _ _) ?_
  refine z_sld X hX hbl hS (by omega) hL zd_L_law_292 ?_
  refine lv_i2l (v := (xs (i + 2)).toInt64) X.1 X.2.1 zd_L_law_293 rfl ?_
  refine lv_bipush (v := nI 32) X.1 X.2.1 zd_L_law_294 (by decide) ?_
  refine lv_lshl (v := (xs (i + 2)).toInt64 <<< ((nI 32).toInt64 &&& 63)) X.1 X.2.1 zd_L_law_296 rfl ?_
  refine lv_aload_n X.1 X.2.1 zd_L_law_297 rfl (lv_at hl 4 rfl) ?_
  refine lv_iload X.1 X.2.1 zd_L_law_298 (lv_at hl 0 rfl) ?_
  refine lv_iconst (v := nI 3) X.1 X.2.1 zd_L_law_300 (by decide) ?_
  refine lv_iadd X.1 X.2.1 zd_L_law_301 ?_
  refine z_top (nI_add _ _) ?_
  refine z_sld X hX hbl hS (by omega) hL zd_L_law_302 ?_
  refine lv_i2l (v := (xs (i + 3)).toInt64) X.1 X.2.1 zd_L_law_303 rfl ?_
  refine lv_ldc2 (v := 4294967295) X.1 X.2.1 X.2.2.1 (X.2.2.2.1 _ zw_708) zd_L_law_304 ?_
  refine lv_land X.1 X.2.1 zd_L_law_307 ?_
  refine lv_lor X.1 X.2.1 zd_L_law_308 ?_
  refine lv_aload_n X.1 X.2.1 zd_L_law_309 rfl (lv_at hl 4 rfl) ?_
  refine lv_iload X.1 X.2.1 zd_L_law_310 (lv_at hl 0 rfl) ?_
  refine lv_iconst (v := nI 4) X.1 X.2.1 zd_L_law_312 (by decide) ?_
  refine lv_iadd X.1 X.2.1 zd_L_law_313 ?_
  refine z_top (nI_add _ _) ?_
  refine z_sld X hX hbl hS (by omega) hL zd_L_law_314 ?_
  refine z_callPi (A1 := AC) (As := [.int (xs (i + 1)), .long ((((xs (i + 2)).toInt64 <<< ((nI 32).toInt64 &&& 63)) ||| ((xs (i + 3)).toInt64 &&& 4294967295))), .int (xs (i + 4))]) (rest := []) (q0 := 0) (ci := 3) X hml hcC (zk_L_42 X.2.2.2.1 (z_rmL hkc (by decide))) rfl rfl rfl hPC haC hS rfl hl.1 rfl (Nat.le_of_ble_eq_true rfl) zd_L_law_315 ⟨Nat.le_of_succ_le hcs.1, by omega⟩ (fun H locs hPC hz hk9 hS => ?_)
  have hPM := lk_MC hM hcm hk9 hPM
  have hPO := lk_O hco hk9 hPO
  refine lv_aload_n X.1 X.2.1 zd_L_law_318 rfl (lv_at hl 2 rfl) ?_
  refine lv_aload_n X.1 X.2.1 zd_L_law_319 rfl (lv_at hl 4 rfl) ?_
  refine lv_iload X.1 X.2.1 zd_L_law_320 (lv_at hl 0 rfl) ?_
  refine lv_iconst (v := nI 1) X.1 X.2.1 zd_L_law_322 (by decide) ?_
  refine lv_iadd X.1 X.2.1 zd_L_law_323 ?_
  refine z_top (nI_add _ _) ?_
  refine z_sld X hX hbl hS (by omega) hL zd_L_law_324 ?_
  refine lv_aload_n X.1 X.2.1 zd_L_law_325 rfl (lv_at hl 4 rfl) ?_
  refine lv_iload X.1 X.2.1 zd_L_law_326 (lv_at hl 0 rfl) ?_
  refine lv_iconst (v := nI 2) X.1 X.2.1 zd_L_law_328 (by decide) ?_
  refine lv_iadd X.1 X.2.1 zd_L_law_329 ?_
  refine z_top (nI_add _ _) ?_
  refine z_sld X hX hbl hS (by omega) hL zd_L_law_330 ?_
  refine lv_i2l (v := (xs (i + 2)).toInt64) X.1 X.2.1 zd_L_law_331 rfl ?_
  refine lv_bipush (v := nI 32) X.1 X.2.1 zd_L_law_332 (by decide) ?_
  refine lv_lshl (v := (xs (i + 2)).toInt64 <<< ((nI 32).toInt64 &&& 63)) X.1 X.2.1 zd_L_law_334 rfl ?_
  refine lv_aload_n X.1 X.2.1 zd_L_law_335 rfl (lv_at hl 4 rfl) ?_
  refine lv_iload X.1 X.2.1 zd_L_law_336 (lv_at hl 0 rfl) ?_
  refine lv_iconst (v := nI 3) X.1 X.2.1 zd_L_law_338 (by decide) ?_
  refine lv_iadd X.1 X.2.1 zd_L_law_339 ?_
  refine z_top (nI_add _ _) ?_
  refine z_sld X hX hbl hS (by omega) hL zd_L_law_340 ?_
  refine lv_i2l (v := (xs (i + 3)).toInt64) X.1 X.2.1 zd_L_law_341 rfl ?_
  refine lv_ldc2 (v := 4294967295) X.1 X.2.1 X.2.2.1 (X.2.2.2.1 _ zw_708) zd_L_law_342 ?_
  refine lv_land X.1 X.2.1 zd_L_law_345 ?_
  refine lv_lor X.1 X.2.1 zd_L_law_346 ?_
  refine lv_aload_n X.1 X.2.1 zd_L_law_347 rfl (lv_at hl 4 rfl) ?_
  refine lv_iload X.1 X.2.1 zd_L_law_348 (lv_at hl 0 rfl) ?_
  refine lv_iconst (v := nI 4) X.1 X.2.1 zd_L_law_350 (by decide) ?_
  refine lv_iadd X.1 X.2.1 zd_L_law_351 ?_
  refine z_top (nI_add _ _) ?_
  refine z_sld X hX hbl hS (by omega) hL zd_L_law_352 ?_
  refine z_callPi (A1 := AM) (As := [.int (xs (i + 1)), .long ((((xs (i + 2)).toInt64 <<< ((nI 32).toInt64 &&& 63)) ||| ((xs (i + 3)).toInt64 &&& 4294967295))), .int (xs (i + 4))]) (rest := [.int r]) (q0 := 0) (ci := 4) X hml hcM (zk_L_46 X.2.2.2.1 (z_rmL hkm (by decide))) rfl rfl rfl hPM haM hS rfl hl.1 rfl (Nat.le_of_ble_eq_true rfl) zd_L_law_353 ⟨Nat.le_of_succ_le hcs.1, by omega⟩ (fun H locs hPM hz hk9 hS => ?_)
  have hPC := lk_CM hC hcm hk9 hPC
  have hPO := lk_O hmo hk9 hPO
  refine lv_icmp_eq (tgt := 760) X.1 X.2.1 zd_L_law_356 (by decide) (fun _ => ?_) (fun h9 => absurd rfl h9)
  exact W.widen (by omega) (by omega) (kont σ2 m2 f H locs ls hR2 hPC hPM hPO hS hl)

set_option maxHeartbeats 4000000 in
set_option maxRecDepth 100000 in
/-- aspect -/
theorem law_5 {p : Program} {l : Launch} {e : Env} {s : State} {m : MethodId} {below : List Frame} {meth : Method} {c : Code} {H : Heap} {locs : List Loc} {cells slots : Nat} {Q : State → Prop} {ls : Array Slot} {K : zK} {GC GM : Nat → Nat} {AC AM : Nat → Prop} {o b L i : Nat} {xs : Nat → Int32} {σ : cS} {mm : mS} {f : Nat → Int64} (F : lC l K GC GM AC AM o b L xs p s m c) (hL : L ≤ 3072) (hi : i + 6 ≤ L) (hcs : cells + 1 ≤ room_1.cells ∧ slots + 6 ≤ room_1.slots) (hR : Rel σ mm) (hPC : va_P K.1 zcl (cW K GC σ) H) (hPM : va_P K.1 zcl (mW K GM mm) H) (hPO : va_P K.1 zcl (lO K o f) H) (hS : va_S (lA s) s.heap H locs) (hl : lv_has ls 8 (lLv b i o GC GM))
    (kont : ∀ (σ : cS) (mm : mS) (f : Nat → Int64) (H : Heap) (locs : List Loc) (ls : Array Slot), Rel σ mm → va_P K.1 zcl (cW K GC σ) H → va_P K.1 zcl (mW K GM mm) H → va_P K.1 zcl (lO K o f) H → va_S (lA s) s.heap H locs → lv_has ls 8 (lLv b i o GC GM) → W p l e room_1 s m #[.ref b] below meth c H locs (cells + 1) (slots + 6) Q (F0 m 760 ls [])) : W p l e room_1 s m #[.ref b] below meth c H locs cells slots Q (F0 m 361 ls []) := by
  obtain ⟨X, hml, hX, hbl, hth, htr, hC, hM, hcm, hco, hmo, haC, haM, haO⟩ := F
  obtain ⟨kc, km, r, σ2, m2, hkc, hkm, hcC, hcM, hR2⟩ := op_aspect (l := l) hC hM hR (xs (i + 1)) (xs (i + 2)) (xs (i + 3)) (xs (i + 4)) (xs (i + 5))
  refine lv_aload_n X.1 X.2.1 zd_L_law_361 rfl (lv_at hl 3 rfl) ?_
  refine lv_aload_n X.1 X.2.1 zd_L_law_362 rfl (lv_at hl 4 rfl) ?_
  refine lv_iload X.1 X.2.1 zd_L_law_363 (lv_at hl 0 rfl) ?_
  refine lv_iconst (v := nI 1) X.1 X.2.1 zd_L_law_365 (by decide) ?_
  refine lv_iadd X.1 X.2.1 zd_L_law_366 ?_
  refine z_top (nI_add _ _) ?_
  refine z_sld X hX hbl hS (by omega) hL zd_L_law_367 ?_
  refine lv_aload_n X.1 X.2.1 zd_L_law_368 rfl (lv_at hl 4 rfl) ?_
  refine lv_iload X.1 X.2.1 zd_L_law_369 (lv_at hl 0 rfl) ?_
  refine lv_iconst (v := nI 2) X.1 X.2.1 zd_L_law_371 (by decide) ?_
  refine lv_iadd X.1 X.2.1 zd_L_law_372 ?_
  refine z_top (nI_add _ _) ?_
  refine z_sld X hX hbl hS (by omega) hL zd_L_law_373 ?_
  refine lv_aload_n X.1 X.2.1 zd_L_law_374 rfl (lv_at hl 4 rfl) ?_
  refine lv_iload X.1 X.2.1 zd_L_law_375 (lv_at hl 0 rfl) ?_
  refine lv_iconst (v := nI 3) X.1 X.2.1 zd_L_law_377 (by decide) ?_
  refine lv_iadd X.1 X.2.1 zd_L_law_378 ?_
  refine z_top (nI_add _ _) ?_
  refine z_sld X hX hbl hS (by omega) hL zd_L_law_379 ?_
  refine lv_aload_n X.1 X.2.1 zd_L_law_380 rfl (lv_at hl 4 rfl) ?_
  refine lv_iload X.1 X.2.1 zd_L_law_381 (lv_at hl 0 rfl) ?_
  refine lv_iconst (v := nI 4) X.1 X.2.1 zd_L_law_383 (by decide) ?_
  refine lv_iadd X.1 X.2.1 zd_L_law_384 ?_
  refine z_top (nI_add _ _) ?_
  refine z_sld X hX hbl hS (by omega) hL zd_L_law_385 ?_
  refine lv_aload_n X.1 X.2.1 zd_L_law_386 rfl (lv_at hl 4 rfl) ?_
  refine lv_iload X.1 X.2.1 zd_L_law_387 (lv_at hl 0 rfl) ?_
  refine lv_iconst (v := nI 5) X.1 X.2.1 zd_L_law_389 (by decide) ?_
  refine lv_iadd X.1 X.2.1 zd_L_law_390 ?_
  refine z_top (nI_add _ _) ?_
  refine z_sld X hX hbl hS (by omega) hL zd_L_law_391 ?_
  refine z_callPi (A1 := AC) (As := [.int (xs (i + 1)), .int (xs (i + 2)), .int (xs (i + 3)), .int (xs (i + 4)), .int (xs (i + 5))]) (rest := []) (q0 := 0) (ci := 3) X hml hcC (zk_L_47 X.2.2.2.1 (z_rmL hkc (by decide))) rfl rfl rfl hPC haC hS rfl hl.1 rfl (Nat.le_of_ble_eq_true rfl) zd_L_law_392 ⟨Nat.le_of_succ_le hcs.1, by omega⟩ (fun H locs hPC hz hk9 hS => ?_)
  have hPM := lk_MC hM hcm hk9 hPM
  have hPO := lk_O hco hk9 hPO
  refine lv_aload_n X.1 X.2.1 zd_L_law_395 rfl (lv_at hl 2 rfl) ?_
  refine lv_aload_n X.1 X.2.1 zd_L_law_396 rfl (lv_at hl 4 rfl) ?_
  refine lv_iload X.1 X.2.1 zd_L_law_397 (lv_at hl 0 rfl) ?_
  refine lv_iconst (v := nI 1) X.1 X.2.1 zd_L_law_399 (by decide) ?_
  refine lv_iadd X.1 X.2.1 zd_L_law_400 ?_
  refine z_top (nI_add _ _) ?_
  refine z_sld X hX hbl hS (by omega) hL zd_L_law_401 ?_
  refine lv_aload_n X.1 X.2.1 zd_L_law_402 rfl (lv_at hl 4 rfl) ?_
  refine lv_iload X.1 X.2.1 zd_L_law_403 (lv_at hl 0 rfl) ?_
  refine lv_iconst (v := nI 2) X.1 X.2.1 zd_L_law_405 (by decide) ?_
  refine lv_iadd X.1 X.2.1 zd_L_law_406 ?_
  refine z_top (nI_add _ _) ?_
  refine z_sld X hX hbl hS (by omega) hL zd_L_law_407 ?_
  refine lv_aload_n X.1 X.2.1 zd_L_law_408 rfl (lv_at hl 4 rfl) ?_
  refine lv_iload X.1 X.2.1 zd_L_law_409 (lv_at hl 0 rfl) ?_
  refine lv_iconst (v := nI 3) X.1 X.2.1 zd_L_law_411 (by decide) ?_
  refine lv_iadd X.1 X.2.1 zd_L_law_412 ?_
  refine z_top (nI_add _ _) ?_
  refine z_sld X hX hbl hS (by omega) hL zd_L_law_413 ?_
  refine lv_aload_n X.1 X.2.1 zd_L_law_414 rfl (lv_at hl 4 rfl) ?_
  refine lv_iload X.1 X.2.1 zd_L_law_415 (lv_at hl 0 rfl) ?_
  refine lv_iconst (v := nI 4) X.1 X.2.1 zd_L_law_417 (by decide) ?_
  refine lv_iadd X.1 X.2.1 zd_L_law_418 ?_
  refine z_top (nI_add _ _) ?_
  refine z_sld X hX hbl hS (by omega) hL zd_L_law_419 ?_
  refine lv_aload_n X.1 X.2.1 zd_L_law_420 rfl (lv_at hl 4 rfl) ?_
  refine lv_iload X.1 X.2.1 zd_L_law_421 (lv_at hl 0 rfl) ?_
  refine lv_iconst (v := nI 5) X.1 X.2.1 zd_L_law_423 (by decide) ?_
  refine lv_iadd X.1 X.2.1 zd_L_law_424 ?_
  refine z_top (nI_add _ _) ?_
  refine z_sld X hX hbl hS (by omega) hL zd_L_law_425 ?_
  refine z_callPi (A1 := AM) (As := [.int (xs (i + 1)), .int (xs (i + 2)), .int (xs (i + 3)), .int (xs (i + 4)), .int (xs (i + 5))]) (rest := [.int r]) (q0 := 0) (ci := 4) X hml hcM (zk_L_51 X.2.2.2.1 (z_rmL hkm (by decide))) rfl rfl rfl hPM haM hS rfl hl.1 rfl (Nat.le_of_ble_eq_true rfl) zd_L_law_426 ⟨Nat.le_of_succ_le hcs.1, by omega⟩ (fun H locs hPM hz hk9 hS => ?_)
  have hPC := lk_CM hC hcm hk9 hPC
  have hPO := lk_O hmo hk9 hPO
  refine lv_icmp_eq (tgt := 760) X.1 X.2.1 zd_L_law_429 (by decide) (fun _ => ?_) (fun h9 => absurd rfl h9)
  exact W.widen (by omega) (by omega) (kont σ2 m2 f H locs ls hR2 hPC hPM hPO hS hl)

set_option maxHeartbeats 4000000 in
set_option maxRecDepth 100000 in
/-- need -/
theorem law_6 {p : Program} {l : Launch} {e : Env} {s : State} {m : MethodId} {below : List Frame} {meth : Method} {c : Code} {H : Heap} {locs : List Loc} {cells slots : Nat} {Q : State → Prop} {ls : Array Slot} {K : zK} {GC GM : Nat → Nat} {AC AM : Nat → Prop} {o b L i : Nat} {xs : Nat → Int32} {σ : cS} {mm : mS} {f : Nat → Int64} (F : lC l K GC GM AC AM o b L xs p s m c) (hL : L ≤ 3072) (hi : i + 6 ≤ L) (hcs : cells + 1 ≤ room_1.cells ∧ slots + 6 ≤ room_1.slots) (hR : Rel σ mm) (hPC : va_P K.1 zcl (cW K GC σ) H) (hPM : va_P K.1 zcl (mW K GM mm) H) (hPO : va_P K.1 zcl (lO K o f) H) (hS : va_S (lA s) s.heap H locs) (hl : lv_has ls 8 (lLv b i o GC GM))
    (kont : ∀ (σ : cS) (mm : mS) (f : Nat → Int64) (H : Heap) (locs : List Loc) (ls : Array Slot), Rel σ mm → va_P K.1 zcl (cW K GC σ) H → va_P K.1 zcl (mW K GM mm) H → va_P K.1 zcl (lO K o f) H → va_S (lA s) s.heap H locs → lv_has ls 8 (lLv b i o GC GM) → W p l e room_1 s m #[.ref b] below meth c H locs (cells + 1) (slots + 6) Q (F0 m 760 ls [])) : W p l e room_1 s m #[.ref b] below meth c H locs cells slots Q (F0 m 434 ls []) := by
  obtain ⟨X, hml, hX, hbl, hth, htr, hC, hM, hcm, hco, hmo, haC, haM, haO⟩ := F
  obtain ⟨kc, km, r, σ2, m2, hkc, hkm, hcC, hcM, hR2⟩ := op_need (l := l) hC hM hR (xs (i + 1)) (xs (i + 2))
  refine lv_aload_n X.1 X.2.1 zd_L_law_434 rfl (lv_at hl 3 rfl) ?_
  refine lv_aload_n X.1 X.2.1 zd_L_law_435 rfl (lv_at hl 4 rfl) ?_
  refine lv_iload X.1 X.2.1 zd_L_law_436 (lv_at hl 0 rfl) ?_
  refine lv_iconst (v := nI 1) X.1 X.2.1 zd_L_law_438 (by decide) ?_
  refine lv_iadd X.1 X.2.1 zd_L_law_439 ?_
  refine z_top (nI_add _ _) ?_
  refine z_sld X hX hbl hS (by omega) hL zd_L_law_440 ?_
  refine lv_aload_n X.1 X.2.1 zd_L_law_441 rfl (lv_at hl 4 rfl) ?_
  refine lv_iload X.1 X.2.1 zd_L_law_442 (lv_at hl 0 rfl) ?_
  refine lv_iconst (v := nI 2) X.1 X.2.1 zd_L_law_444 (by decide) ?_
  refine lv_iadd X.1 X.2.1 zd_L_law_445 ?_
  refine z_top (nI_add _ _) ?_
  refine z_sld X hX hbl hS (by omega) hL zd_L_law_446 ?_
  refine z_callPi (A1 := AC) (As := [.int (xs (i + 1)), .int (xs (i + 2))]) (rest := []) (q0 := 0) (ci := 3) X hml hcC (zk_L_52 X.2.2.2.1 (z_rmL hkc (by decide))) rfl rfl rfl hPC haC hS rfl hl.1 rfl (Nat.le_of_ble_eq_true rfl) zd_L_law_447 ⟨Nat.le_of_succ_le hcs.1, by omega⟩ (fun H locs hPC hz hk9 hS => ?_)
  have hPM := lk_MC hM hcm hk9 hPM
  have hPO := lk_O hco hk9 hPO
  refine lv_aload_n X.1 X.2.1 zd_L_law_450 rfl (lv_at hl 2 rfl) ?_
  refine lv_aload_n X.1 X.2.1 zd_L_law_451 rfl (lv_at hl 4 rfl) ?_
  refine lv_iload X.1 X.2.1 zd_L_law_452 (lv_at hl 0 rfl) ?_
  refine lv_iconst (v := nI 1) X.1 X.2.1 zd_L_law_454 (by decide) ?_
  refine lv_iadd X.1 X.2.1 zd_L_law_455 ?_
  refine z_top (nI_add _ _) ?_
  refine z_sld X hX hbl hS (by omega) hL zd_L_law_456 ?_
  refine lv_aload_n X.1 X.2.1 zd_L_law_457 rfl (lv_at hl 4 rfl) ?_
  refine lv_iload X.1 X.2.1 zd_L_law_458 (lv_at hl 0 rfl) ?_
  refine lv_iconst (v := nI 2) X.1 X.2.1 zd_L_law_460 (by decide) ?_
  refine lv_iadd X.1 X.2.1 zd_L_law_461 ?_
  refine z_top (nI_add _ _) ?_
  refine z_sld X hX hbl hS (by omega) hL zd_L_law_462 ?_
  refine z_callPi (A1 := AM) (As := [.int (xs (i + 1)), .int (xs (i + 2))]) (rest := [.int r]) (q0 := 0) (ci := 4) X hml hcM (zk_L_56 X.2.2.2.1 (z_rmL hkm (by decide))) rfl rfl rfl hPM haM hS rfl hl.1 rfl (Nat.le_of_ble_eq_true rfl) zd_L_law_463 ⟨Nat.le_of_succ_le hcs.1, by omega⟩ (fun H locs hPM hz hk9 hS => ?_)
  have hPC := lk_CM hC hcm hk9 hPC
  have hPO := lk_O hmo hk9 hPO
  refine lv_icmp_eq (tgt := 760) X.1 X.2.1 zd_L_law_466 (by decide) (fun _ => ?_) (fun h9 => absurd rfl h9)
  exact W.widen (by omega) (by omega) (kont σ2 m2 f H locs ls hR2 hPC hPM hPO hS hl)

set_option maxHeartbeats 4000000 in
set_option maxRecDepth 100000 in
/-- apply -/
theorem law_7 {p : Program} {l : Launch} {e : Env} {s : State} {m : MethodId} {below : List Frame} {meth : Method} {c : Code} {H : Heap} {locs : List Loc} {cells slots : Nat} {Q : State → Prop} {ls : Array Slot} {K : zK} {GC GM : Nat → Nat} {AC AM : Nat → Prop} {o b L i : Nat} {xs : Nat → Int32} {σ : cS} {mm : mS} {f : Nat → Int64} (F : lC l K GC GM AC AM o b L xs p s m c) (hL : L ≤ 3072) (hi : i + 6 ≤ L) (hcs : cells + 1 ≤ room_1.cells ∧ slots + 6 ≤ room_1.slots) (hR : Rel σ mm) (hPC : va_P K.1 zcl (cW K GC σ) H) (hPM : va_P K.1 zcl (mW K GM mm) H) (hPO : va_P K.1 zcl (lO K o f) H) (hS : va_S (lA s) s.heap H locs) (hl : lv_has ls 8 (lLv b i o GC GM))
    (kont : ∀ (σ : cS) (mm : mS) (f : Nat → Int64) (H : Heap) (locs : List Loc) (ls : Array Slot), Rel σ mm → va_P K.1 zcl (cW K GC σ) H → va_P K.1 zcl (mW K GM mm) H → va_P K.1 zcl (lO K o f) H → va_S (lA s) s.heap H locs → lv_has ls 8 (lLv b i o GC GM) → W p l e room_1 s m #[.ref b] below meth c H locs (cells + 1) (slots + 6) Q (F0 m 760 ls [])) : W p l e room_1 s m #[.ref b] below meth c H locs cells slots Q (F0 m 471 ls []) := by
  obtain ⟨X, hml, hX, hbl, hth, htr, hC, hM, hcm, hco, hmo, haC, haM, haO⟩ := F
  obtain ⟨kc, km, r, σ2, m2, hkc, hkm, hcC, hcM, hR2⟩ := op_apply (l := l) hC hM hR (xs (i + 1)) (xs (i + 2)) (xs (i + 3))
  refine lv_aload_n X.1 X.2.1 zd_L_law_471 rfl (lv_at hl 3 rfl) ?_
  refine lv_aload_n X.1 X.2.1 zd_L_law_472 rfl (lv_at hl 4 rfl) ?_
  refine lv_iload X.1 X.2.1 zd_L_law_473 (lv_at hl 0 rfl) ?_
  refine lv_iconst (v := nI 1) X.1 X.2.1 zd_L_law_475 (by decide) ?_
  refine lv_iadd X.1 X.2.1 zd_L_law_476 ?_
  refine z_top (nI_add _ _) ?_
  refine z_sld X hX hbl hS (by omega) hL zd_L_law_477 ?_
  refine lv_aload_n X.1 X.2.1 zd_L_law_478 rfl (lv_at hl 4 rfl) ?_
  refine lv_iload X.1 X.2.1 zd_L_law_479 (lv_at hl 0 rfl) ?_
  refine lv_iconst (v := nI 2) X.1 X.2.1 zd_L_law_481 (by decide) ?_
  refine lv_iadd X.1 X.2.1 zd_L_law_482 ?_
  refine z_top (nI_add _ _) ?_
  refine z_sld X hX hbl hS (by omega) hL zd_L_law_483 ?_
  refine lv_aload_n X.1 X.2.1 zd_L_law_484 rfl (lv_at hl 4 rfl) ?_
  refine lv_iload X.1 X.2.1 zd_L_law_485 (lv_at hl 0 rfl) ?_
  refine lv_iconst (v := nI 3) X.1 X.2.1 zd_L_law_487 (by decide) ?_
  refine lv_iadd X.1 X.2.1 zd_L_law_488 ?_
  refine z_top (nI_add _ _) ?_
  refine z_sld X hX hbl hS (by omega) hL zd_L_law_489 ?_
  refine z_callPi (A1 := AC) (As := [.int (xs (i + 1)), .int (xs (i + 2)), .int (xs (i + 3))]) (rest := []) (q0 := 0) (ci := 3) X hml hcC (zk_L_57 X.2.2.2.1 (z_rmL hkc (by decide))) rfl rfl rfl hPC haC hS rfl hl.1 rfl (Nat.le_of_ble_eq_true rfl) zd_L_law_490 ⟨Nat.le_of_succ_le hcs.1, by omega⟩ (fun H locs hPC hz hk9 hS => ?_)
  have hPM := lk_MC hM hcm hk9 hPM
  have hPO := lk_O hco hk9 hPO
  refine lv_aload_n X.1 X.2.1 zd_L_law_493 rfl (lv_at hl 2 rfl) ?_
  refine lv_aload_n X.1 X.2.1 zd_L_law_494 rfl (lv_at hl 4 rfl) ?_
  refine lv_iload X.1 X.2.1 zd_L_law_495 (lv_at hl 0 rfl) ?_
  refine lv_iconst (v := nI 1) X.1 X.2.1 zd_L_law_497 (by decide) ?_
  refine lv_iadd X.1 X.2.1 zd_L_law_498 ?_
  refine z_top (nI_add _ _) ?_
  refine z_sld X hX hbl hS (by omega) hL zd_L_law_499 ?_
  refine lv_aload_n X.1 X.2.1 zd_L_law_500 rfl (lv_at hl 4 rfl) ?_
  refine lv_iload X.1 X.2.1 zd_L_law_501 (lv_at hl 0 rfl) ?_
  refine lv_iconst (v := nI 2) X.1 X.2.1 zd_L_law_503 (by decide) ?_
  refine lv_iadd X.1 X.2.1 zd_L_law_504 ?_
  refine z_top (nI_add _ _) ?_
  refine z_sld X hX hbl hS (by omega) hL zd_L_law_505 ?_
  refine lv_aload_n X.1 X.2.1 zd_L_law_506 rfl (lv_at hl 4 rfl) ?_
  refine lv_iload X.1 X.2.1 zd_L_law_507 (lv_at hl 0 rfl) ?_
  refine lv_iconst (v := nI 3) X.1 X.2.1 zd_L_law_509 (by decide) ?_
  refine lv_iadd X.1 X.2.1 zd_L_law_510 ?_
  refine z_top (nI_add _ _) ?_
  refine z_sld X hX hbl hS (by omega) hL zd_L_law_511 ?_
  refine z_callPi (A1 := AM) (As := [.int (xs (i + 1)), .int (xs (i + 2)), .int (xs (i + 3))]) (rest := [.int r]) (q0 := 0) (ci := 4) X hml hcM (zk_L_61 X.2.2.2.1 (z_rmL hkm (by decide))) rfl rfl rfl hPM haM hS rfl hl.1 rfl (Nat.le_of_ble_eq_true rfl) zd_L_law_512 ⟨Nat.le_of_succ_le hcs.1, by omega⟩ (fun H locs hPM hz hk9 hS => ?_)
  have hPC := lk_CM hC hcm hk9 hPC
  have hPO := lk_O hmo hk9 hPO
  refine lv_icmp_eq (tgt := 760) X.1 X.2.1 zd_L_law_515 (by decide) (fun _ => ?_) (fun h9 => absurd rfl h9)
  exact W.widen (by omega) (by omega) (kont σ2 m2 f H locs ls hR2 hPC hPM hPO hS hl)

set_option maxHeartbeats 4000000 in
set_option maxRecDepth 100000 in
/-- clash -/
theorem law_8 {p : Program} {l : Launch} {e : Env} {s : State} {m : MethodId} {below : List Frame} {meth : Method} {c : Code} {H : Heap} {locs : List Loc} {cells slots : Nat} {Q : State → Prop} {ls : Array Slot} {K : zK} {GC GM : Nat → Nat} {AC AM : Nat → Prop} {o b L i : Nat} {xs : Nat → Int32} {σ : cS} {mm : mS} {f : Nat → Int64} (F : lC l K GC GM AC AM o b L xs p s m c) (hL : L ≤ 3072) (hi : i + 6 ≤ L) (hcs : cells + 1 ≤ room_1.cells ∧ slots + 6 ≤ room_1.slots) (hR : Rel σ mm) (hPC : va_P K.1 zcl (cW K GC σ) H) (hPM : va_P K.1 zcl (mW K GM mm) H) (hPO : va_P K.1 zcl (lO K o f) H) (hS : va_S (lA s) s.heap H locs) (hl : lv_has ls 8 (lLv b i o GC GM))
    (kont : ∀ (σ : cS) (mm : mS) (f : Nat → Int64) (H : Heap) (locs : List Loc) (ls : Array Slot), Rel σ mm → va_P K.1 zcl (cW K GC σ) H → va_P K.1 zcl (mW K GM mm) H → va_P K.1 zcl (lO K o f) H → va_S (lA s) s.heap H locs → lv_has ls 8 (lLv b i o GC GM) → W p l e room_1 s m #[.ref b] below meth c H locs (cells + 1) (slots + 6) Q (F0 m 760 ls [])) : W p l e room_1 s m #[.ref b] below meth c H locs cells slots Q (F0 m 520 ls []) := by
  obtain ⟨X, hml, hX, hbl, hth, htr, hC, hM, hcm, hco, hmo, haC, haM, haO⟩ := F
  obtain ⟨kc, km, r, σ2, m2, hkc, hkm, hcC, hcM, hR2⟩ := op_clash (l := l) hC hM hR (xs (i + 1))
  refine lv_aload_n X.1 X.2.1 zd_L_law_520 rfl (lv_at hl 3 rfl) ?_
  refine lv_aload_n X.1 X.2.1 zd_L_law_521 rfl (lv_at hl 4 rfl) ?_
  refine lv_iload X.1 X.2.1 zd_L_law_522 (lv_at hl 0 rfl) ?_
  refine lv_iconst (v := nI 1) X.1 X.2.1 zd_L_law_524 (by decide) ?_
  refine lv_iadd X.1 X.2.1 zd_L_law_525 ?_
  refine z_top (nI_add _ _) ?_
  refine z_sld X hX hbl hS (by omega) hL zd_L_law_526 ?_
  refine z_callPi (A1 := AC) (As := [.int (xs (i + 1))]) (rest := []) (q0 := 0) (ci := 3) X hml hcC (zk_L_62 X.2.2.2.1 (z_rmL hkc (by decide))) rfl rfl rfl hPC haC hS rfl hl.1 rfl (Nat.le_of_ble_eq_true rfl) zd_L_law_527 ⟨Nat.le_of_succ_le hcs.1, by omega⟩ (fun H locs hPC hz hk9 hS => ?_)
  have hPM := lk_MC hM hcm hk9 hPM
  have hPO := lk_O hco hk9 hPO
  refine lv_aload_n X.1 X.2.1 zd_L_law_530 rfl (lv_at hl 2 rfl) ?_
  refine lv_aload_n X.1 X.2.1 zd_L_law_531 rfl (lv_at hl 4 rfl) ?_
  refine lv_iload X.1 X.2.1 zd_L_law_532 (lv_at hl 0 rfl) ?_
  refine lv_iconst (v := nI 1) X.1 X.2.1 zd_L_law_534 (by decide) ?_
  refine lv_iadd X.1 X.2.1 zd_L_law_535 ?_
  refine z_top (nI_add _ _) ?_
  refine z_sld X hX hbl hS (by omega) hL zd_L_law_536 ?_
  refine z_callPi (A1 := AM) (As := [.int (xs (i + 1))]) (rest := [.int r]) (q0 := 0) (ci := 4) X hml hcM (zk_L_65 X.2.2.2.1 (z_rmL hkm (by decide))) rfl rfl rfl hPM haM hS rfl hl.1 rfl (Nat.le_of_ble_eq_true rfl) zd_L_law_537 ⟨Nat.le_of_succ_le hcs.1, by omega⟩ (fun H locs hPM hz hk9 hS => ?_)
  have hPC := lk_CM hC hcm hk9 hPC
  have hPO := lk_O hmo hk9 hPO
  refine lv_icmp_eq (tgt := 760) X.1 X.2.1 zd_L_law_540 (by decide) (fun _ => ?_) (fun h9 => absurd rfl h9)
  exact W.widen (by omega) (by omega) (kont σ2 m2 f H locs ls hR2 hPC hPM hPO hS hl)

set_option maxHeartbeats 4000000 in
set_option maxRecDepth 100000 in
/-- state -/
theorem law_9 {p : Program} {l : Launch} {e : Env} {s : State} {m : MethodId} {below : List Frame} {meth : Method} {c : Code} {H : Heap} {locs : List Loc} {cells slots : Nat} {Q : State → Prop} {ls : Array Slot} {K : zK} {GC GM : Nat → Nat} {AC AM : Nat → Prop} {o b L i : Nat} {xs : Nat → Int32} {σ : cS} {mm : mS} {f : Nat → Int64} (F : lC l K GC GM AC AM o b L xs p s m c) (hL : L ≤ 3072) (hi : i + 6 ≤ L) (hcs : cells + 1 ≤ room_1.cells ∧ slots + 6 ≤ room_1.slots) (hR : Rel σ mm) (hPC : va_P K.1 zcl (cW K GC σ) H) (hPM : va_P K.1 zcl (mW K GM mm) H) (hPO : va_P K.1 zcl (lO K o f) H) (hS : va_S (lA s) s.heap H locs) (hl : lv_has ls 8 (lLv b i o GC GM))
    (kont : ∀ (σ : cS) (mm : mS) (f : Nat → Int64) (H : Heap) (locs : List Loc) (ls : Array Slot), Rel σ mm → va_P K.1 zcl (cW K GC σ) H → va_P K.1 zcl (mW K GM mm) H → va_P K.1 zcl (lO K o f) H → va_S (lA s) s.heap H locs → lv_has ls 8 (lLv b i o GC GM) → W p l e room_1 s m #[.ref b] below meth c H locs (cells + 1) (slots + 6) Q (F0 m 760 ls [])) : W p l e room_1 s m #[.ref b] below meth c H locs cells slots Q (F0 m 545 ls []) := by
  obtain ⟨X, hml, hX, hbl, hth, htr, hC, hM, hcm, hco, hmo, haC, haM, haO⟩ := F
  obtain ⟨kc, km, r, σ2, m2, hkc, hkm, hcC, hcM, hR2⟩ := op_state (l := l) hC hM hR (xs (i + 1)) (xs (i + 2)) (xs (i + 3))
  refine lv_aload_n X.1 X.2.1 zd_L_law_545 rfl (lv_at hl 3 rfl) ?_
  refine lv_aload_n X.1 X.2.1 zd_L_law_546 rfl (lv_at hl 4 rfl) ?_
  refine lv_iload X.1 X.2.1 zd_L_law_547 (lv_at hl 0 rfl) ?_
  refine lv_iconst (v := nI 1) X.1 X.2.1 zd_L_law_549 (by decide) ?_
  refine lv_iadd X.1 X.2.1 zd_L_law_550 ?_
  refine z_top (nI_add _ _) ?_
  refine z_sld X hX hbl hS (by omega) hL zd_L_law_551 ?_
  refine lv_aload_n X.1 X.2.1 zd_L_law_552 rfl (lv_at hl 4 rfl) ?_
  refine lv_iload X.1 X.2.1 zd_L_law_553 (lv_at hl 0 rfl) ?_
  refine lv_iconst (v := nI 2) X.1 X.2.1 zd_L_law_555 (by decide) ?_
  refine lv_iadd X.1 X.2.1 zd_L_law_556 ?_
  refine z_top (nI_add _ _) ?_
  refine z_sld X hX hbl hS (by omega) hL zd_L_law_557 ?_
  refine lv_aload_n X.1 X.2.1 zd_L_law_558 rfl (lv_at hl 4 rfl) ?_
  refine lv_iload X.1 X.2.1 zd_L_law_559 (lv_at hl 0 rfl) ?_
  refine lv_iconst (v := nI 3) X.1 X.2.1 zd_L_law_561 (by decide) ?_
  refine lv_iadd X.1 X.2.1 zd_L_law_562 ?_
  refine z_top (nI_add _ _) ?_
  refine z_sld X hX hbl hS (by omega) hL zd_L_law_563 ?_
  refine z_callPi (A1 := AC) (As := [.int (xs (i + 1)), .int (xs (i + 2)), .int (xs (i + 3))]) (rest := []) (q0 := 0) (ci := 3) X hml hcC (zk_L_66 X.2.2.2.1 (z_rmL hkc (by decide))) rfl rfl rfl hPC haC hS rfl hl.1 rfl (Nat.le_of_ble_eq_true rfl) zd_L_law_564 ⟨Nat.le_of_succ_le hcs.1, by omega⟩ (fun H locs hPC hz hk9 hS => ?_)
  have hPM := lk_MC hM hcm hk9 hPM
  have hPO := lk_O hco hk9 hPO
  refine lv_aload_n X.1 X.2.1 zd_L_law_567 rfl (lv_at hl 2 rfl) ?_
  refine lv_aload_n X.1 X.2.1 zd_L_law_568 rfl (lv_at hl 4 rfl) ?_
  refine lv_iload X.1 X.2.1 zd_L_law_569 (lv_at hl 0 rfl) ?_
  refine lv_iconst (v := nI 1) X.1 X.2.1 zd_L_law_571 (by decide) ?_
  refine lv_iadd X.1 X.2.1 zd_L_law_572 ?_
  refine z_top (nI_add _ _) ?_
  refine z_sld X hX hbl hS (by omega) hL zd_L_law_573 ?_
  refine lv_aload_n X.1 X.2.1 zd_L_law_574 rfl (lv_at hl 4 rfl) ?_
  refine lv_iload X.1 X.2.1 zd_L_law_575 (lv_at hl 0 rfl) ?_
  refine lv_iconst (v := nI 2) X.1 X.2.1 zd_L_law_577 (by decide) ?_
  refine lv_iadd X.1 X.2.1 zd_L_law_578 ?_
  refine z_top (nI_add _ _) ?_
  refine z_sld X hX hbl hS (by omega) hL zd_L_law_579 ?_
  refine lv_aload_n X.1 X.2.1 zd_L_law_580 rfl (lv_at hl 4 rfl) ?_
  refine lv_iload X.1 X.2.1 zd_L_law_581 (lv_at hl 0 rfl) ?_
  refine lv_iconst (v := nI 3) X.1 X.2.1 zd_L_law_583 (by decide) ?_
  refine lv_iadd X.1 X.2.1 zd_L_law_584 ?_
  refine z_top (nI_add _ _) ?_
  refine z_sld X hX hbl hS (by omega) hL zd_L_law_585 ?_
  refine z_callPi (A1 := AM) (As := [.int (xs (i + 1)), .int (xs (i + 2)), .int (xs (i + 3))]) (rest := [.int r]) (q0 := 0) (ci := 4) X hml hcM (zk_L_69 X.2.2.2.1 (z_rmL hkm (by decide))) rfl rfl rfl hPM haM hS rfl hl.1 rfl (Nat.le_of_ble_eq_true rfl) zd_L_law_586 ⟨Nat.le_of_succ_le hcs.1, by omega⟩ (fun H locs hPM hz hk9 hS => ?_)
  have hPC := lk_CM hC hcm hk9 hPC
  have hPO := lk_O hmo hk9 hPO
  refine lv_icmp_eq (tgt := 760) X.1 X.2.1 zd_L_law_589 (by decide) (fun _ => ?_) (fun h9 => absurd rfl h9)
  exact W.widen (by omega) (by omega) (kont σ2 m2 f H locs ls hR2 hPC hPM hPO hS hl)

set_option maxHeartbeats 4000000 in
set_option maxRecDepth 100000 in
/-- worked -/
theorem law_11 {p : Program} {l : Launch} {e : Env} {s : State} {m : MethodId} {below : List Frame} {meth : Method} {c : Code} {H : Heap} {locs : List Loc} {cells slots : Nat} {Q : State → Prop} {ls : Array Slot} {K : zK} {GC GM : Nat → Nat} {AC AM : Nat → Prop} {o b L i : Nat} {xs : Nat → Int32} {σ : cS} {mm : mS} {f : Nat → Int64} (F : lC l K GC GM AC AM o b L xs p s m c) (hL : L ≤ 3072) (hi : i + 6 ≤ L) (hcs : cells + 1 ≤ room_1.cells ∧ slots + 6 ≤ room_1.slots) (hR : Rel σ mm) (hPC : va_P K.1 zcl (cW K GC σ) H) (hPM : va_P K.1 zcl (mW K GM mm) H) (hPO : va_P K.1 zcl (lO K o f) H) (hS : va_S (lA s) s.heap H locs) (hl : lv_has ls 8 (lLv b i o GC GM))
    (kont : ∀ (σ : cS) (mm : mS) (f : Nat → Int64) (H : Heap) (locs : List Loc) (ls : Array Slot), Rel σ mm → va_P K.1 zcl (cW K GC σ) H → va_P K.1 zcl (mW K GM mm) H → va_P K.1 zcl (lO K o f) H → va_S (lA s) s.heap H locs → lv_has ls 8 (lLv b i o GC GM) → W p l e room_1 s m #[.ref b] below meth c H locs (cells + 1) (slots + 6) Q (F0 m 760 ls [])) : W p l e room_1 s m #[.ref b] below meth c H locs cells slots Q (F0 m 673 ls []) := by
  obtain ⟨X, hml, hX, hbl, hth, htr, hC, hM, hcm, hco, hmo, haC, haM, haO⟩ := F
  obtain ⟨kc, km, r, σ2, m2, hkc, hkm, hcC, hcM, hR2⟩ := op_worked (l := l) hC hM hR (xs (i + 1)) (xs (i + 2))
  refine lv_aload_n X.1 X.2.1 zd_L_law_673 rfl (lv_at hl 3 rfl) ?_
  refine lv_aload_n X.1 X.2.1 zd_L_law_674 rfl (lv_at hl 4 rfl) ?_
  refine lv_iload X.1 X.2.1 zd_L_law_675 (lv_at hl 0 rfl) ?_
  refine lv_iconst (v := nI 1) X.1 X.2.1 zd_L_law_677 (by decide) ?_
  refine lv_iadd X.1 X.2.1 zd_L_law_678 ?_
  refine z_top (nI_add _ _) ?_
  refine z_sld X hX hbl hS (by omega) hL zd_L_law_679 ?_
  refine lv_aload_n X.1 X.2.1 zd_L_law_680 rfl (lv_at hl 4 rfl) ?_
  refine lv_iload X.1 X.2.1 zd_L_law_681 (lv_at hl 0 rfl) ?_
  refine lv_iconst (v := nI 2) X.1 X.2.1 zd_L_law_683 (by decide) ?_
  refine lv_iadd X.1 X.2.1 zd_L_law_684 ?_
  refine z_top (nI_add _ _) ?_
  refine z_sld X hX hbl hS (by omega) hL zd_L_law_685 ?_
  refine z_callPi (A1 := AC) (As := [.int (xs (i + 1)), .int (xs (i + 2))]) (rest := []) (q0 := 0) (ci := 3) X hml hcC (zk_L_80 X.2.2.2.1 (z_rmL hkc (by decide))) rfl rfl rfl hPC haC hS rfl hl.1 rfl (Nat.le_of_ble_eq_true rfl) zd_L_law_686 ⟨Nat.le_of_succ_le hcs.1, by omega⟩ (fun H locs hPC hz hk9 hS => ?_)
  have hPM := lk_MC hM hcm hk9 hPM
  have hPO := lk_O hco hk9 hPO
  refine lv_aload_n X.1 X.2.1 zd_L_law_689 rfl (lv_at hl 2 rfl) ?_
  refine lv_aload_n X.1 X.2.1 zd_L_law_690 rfl (lv_at hl 4 rfl) ?_
  refine lv_iload X.1 X.2.1 zd_L_law_691 (lv_at hl 0 rfl) ?_
  refine lv_iconst (v := nI 1) X.1 X.2.1 zd_L_law_693 (by decide) ?_
  refine lv_iadd X.1 X.2.1 zd_L_law_694 ?_
  refine z_top (nI_add _ _) ?_
  refine z_sld X hX hbl hS (by omega) hL zd_L_law_695 ?_
  refine lv_aload_n X.1 X.2.1 zd_L_law_696 rfl (lv_at hl 4 rfl) ?_
  refine lv_iload X.1 X.2.1 zd_L_law_697 (lv_at hl 0 rfl) ?_
  refine lv_iconst (v := nI 2) X.1 X.2.1 zd_L_law_699 (by decide) ?_
  refine lv_iadd X.1 X.2.1 zd_L_law_700 ?_
  refine z_top (nI_add _ _) ?_
  refine z_sld X hX hbl hS (by omega) hL zd_L_law_701 ?_
  refine z_callPi (A1 := AM) (As := [.int (xs (i + 1)), .int (xs (i + 2))]) (rest := [.int r]) (q0 := 0) (ci := 4) X hml hcM (zk_L_83 X.2.2.2.1 (z_rmL hkm (by decide))) rfl rfl rfl hPM haM hS rfl hl.1 rfl (Nat.le_of_ble_eq_true rfl) zd_L_law_702 ⟨Nat.le_of_succ_le hcs.1, by omega⟩ (fun H locs hPM hz hk9 hS => ?_)
  have hPC := lk_CM hC hcm hk9 hPC
  have hPO := lk_O hmo hk9 hPO
  refine lv_icmp_eq (tgt := 760) X.1 X.2.1 zd_L_law_705 (by decide) (fun _ => ?_) (fun h9 => absurd rfl h9)
  exact W.widen (by omega) (by omega) (kont σ2 m2 f H locs ls hR2 hPC hPM hPO hS hl)

set_option maxHeartbeats 4000000 in
set_option maxRecDepth 100000 in
/-- done -/
theorem law_12 {p : Program} {l : Launch} {e : Env} {s : State} {m : MethodId} {below : List Frame} {meth : Method} {c : Code} {H : Heap} {locs : List Loc} {cells slots : Nat} {Q : State → Prop} {ls : Array Slot} {K : zK} {GC GM : Nat → Nat} {AC AM : Nat → Prop} {o b L i : Nat} {xs : Nat → Int32} {σ : cS} {mm : mS} {f : Nat → Int64} (F : lC l K GC GM AC AM o b L xs p s m c) (hL : L ≤ 3072) (hi : i + 6 ≤ L) (hcs : cells + 1 ≤ room_1.cells ∧ slots + 6 ≤ room_1.slots) (hR : Rel σ mm) (hPC : va_P K.1 zcl (cW K GC σ) H) (hPM : va_P K.1 zcl (mW K GM mm) H) (hPO : va_P K.1 zcl (lO K o f) H) (hS : va_S (lA s) s.heap H locs) (hl : lv_has ls 8 (lLv b i o GC GM))
    (kont : ∀ (σ : cS) (mm : mS) (f : Nat → Int64) (H : Heap) (locs : List Loc) (ls : Array Slot), Rel σ mm → va_P K.1 zcl (cW K GC σ) H → va_P K.1 zcl (mW K GM mm) H → va_P K.1 zcl (lO K o f) H → va_S (lA s) s.heap H locs → lv_has ls 8 (lLv b i o GC GM) → W p l e room_1 s m #[.ref b] below meth c H locs (cells + 1) (slots + 6) Q (F0 m 760 ls [])) : W p l e room_1 s m #[.ref b] below meth c H locs cells slots Q (F0 m 710 ls []) := by
  obtain ⟨X, hml, hX, hbl, hth, htr, hC, hM, hcm, hco, hmo, haC, haM, haO⟩ := F
  obtain ⟨kc, km, r, σ2, m2, hkc, hkm, hcC, hcM, hR2⟩ := op_done (l := l) hC hM hR 
  refine lv_aload_n X.1 X.2.1 zd_L_law_710 rfl (lv_at hl 3 rfl) ?_
  refine z_callPi (A1 := AC) (As := []) (rest := []) (q0 := 0) (ci := 3) X hml hcC (zk_L_84 X.2.2.2.1 (z_rmL hkc (by decide))) rfl rfl rfl hPC haC hS rfl hl.1 rfl (Nat.le_of_ble_eq_true rfl) zd_L_law_711 ⟨Nat.le_of_succ_le hcs.1, by omega⟩ (fun H locs hPC hz hk9 hS => ?_)
  have hPM := lk_MC hM hcm hk9 hPM
  have hPO := lk_O hco hk9 hPO
  refine lv_aload_n X.1 X.2.1 zd_L_law_714 rfl (lv_at hl 2 rfl) ?_
  refine z_callPi (A1 := AM) (As := []) (rest := [.int r]) (q0 := 0) (ci := 4) X hml hcM (zk_L_87 X.2.2.2.1 (z_rmL hkm (by decide))) rfl rfl rfl hPM haM hS rfl hl.1 rfl (Nat.le_of_ble_eq_true rfl) zd_L_law_715 ⟨Nat.le_of_succ_le hcs.1, by omega⟩ (fun H locs hPM hz hk9 hS => ?_)
  have hPC := lk_CM hC hcm hk9 hPC
  have hPO := lk_O hmo hk9 hPO
  refine lv_icmp_eq (tgt := 760) X.1 X.2.1 zd_L_law_718 (by decide) (fun _ => ?_) (fun h9 => absurd rfl h9)
  exact W.widen (by omega) (by omega) (kont σ2 m2 f H locs ls hR2 hPC hPM hPO hS hl)

set_option maxHeartbeats 4000000 in
set_option maxRecDepth 100000 in
/-- maker -/
theorem law_13 {p : Program} {l : Launch} {e : Env} {s : State} {m : MethodId} {below : List Frame} {meth : Method} {c : Code} {H : Heap} {locs : List Loc} {cells slots : Nat} {Q : State → Prop} {ls : Array Slot} {K : zK} {GC GM : Nat → Nat} {AC AM : Nat → Prop} {o b L i : Nat} {xs : Nat → Int32} {σ : cS} {mm : mS} {f : Nat → Int64} (F : lC l K GC GM AC AM o b L xs p s m c) (hL : L ≤ 3072) (hi : i + 6 ≤ L) (hcs : cells + 1 ≤ room_1.cells ∧ slots + 6 ≤ room_1.slots) (hR : Rel σ mm) (hPC : va_P K.1 zcl (cW K GC σ) H) (hPM : va_P K.1 zcl (mW K GM mm) H) (hPO : va_P K.1 zcl (lO K o f) H) (hS : va_S (lA s) s.heap H locs) (hl : lv_has ls 8 (lLv b i o GC GM))
    (kont : ∀ (σ : cS) (mm : mS) (f : Nat → Int64) (H : Heap) (locs : List Loc) (ls : Array Slot), Rel σ mm → va_P K.1 zcl (cW K GC σ) H → va_P K.1 zcl (mW K GM mm) H → va_P K.1 zcl (lO K o f) H → va_S (lA s) s.heap H locs → lv_has ls 8 (lLv b i o GC GM) → W p l e room_1 s m #[.ref b] below meth c H locs (cells + 1) (slots + 6) Q (F0 m 760 ls [])) : W p l e room_1 s m #[.ref b] below meth c H locs cells slots Q (F0 m 723 ls []) := by
  obtain ⟨X, hml, hX, hbl, hth, htr, hC, hM, hcm, hco, hmo, haC, haM, haO⟩ := F
  obtain ⟨kc, km, r, σ2, m2, hkc, hkm, hcC, hcM, hR2⟩ := op_maker (l := l) hC hM hR (xs (i + 1)) (xs (i + 2))
  refine lv_aload_n X.1 X.2.1 zd_L_law_723 rfl (lv_at hl 3 rfl) ?_
  refine lv_aload_n X.1 X.2.1 zd_L_law_724 rfl (lv_at hl 4 rfl) ?_
  refine lv_iload X.1 X.2.1 zd_L_law_725 (lv_at hl 0 rfl) ?_
  refine lv_iconst (v := nI 1) X.1 X.2.1 zd_L_law_727 (by decide) ?_
  refine lv_iadd X.1 X.2.1 zd_L_law_728 ?_
  refine z_top (nI_add _ _) ?_
  refine z_sld X hX hbl hS (by omega) hL zd_L_law_729 ?_
  refine lv_aload_n X.1 X.2.1 zd_L_law_730 rfl (lv_at hl 4 rfl) ?_
  refine lv_iload X.1 X.2.1 zd_L_law_731 (lv_at hl 0 rfl) ?_
  refine lv_iconst (v := nI 2) X.1 X.2.1 zd_L_law_733 (by decide) ?_
  refine lv_iadd X.1 X.2.1 zd_L_law_734 ?_
  refine z_top (nI_add _ _) ?_
  refine z_sld X hX hbl hS (by omega) hL zd_L_law_735 ?_
  refine z_callPi (A1 := AC) (As := [.int (xs (i + 1)), .int (xs (i + 2))]) (rest := []) (q0 := 0) (ci := 3) X hml hcC (zk_L_88 X.2.2.2.1 (z_rmL hkc (by decide))) rfl rfl rfl hPC haC hS rfl hl.1 rfl (Nat.le_of_ble_eq_true rfl) zd_L_law_736 ⟨Nat.le_of_succ_le hcs.1, by omega⟩ (fun H locs hPC hz hk9 hS => ?_)
  have hPM := lk_MC hM hcm hk9 hPM
  have hPO := lk_O hco hk9 hPO
  refine lv_aload_n X.1 X.2.1 zd_L_law_739 rfl (lv_at hl 2 rfl) ?_
  refine lv_aload_n X.1 X.2.1 zd_L_law_740 rfl (lv_at hl 4 rfl) ?_
  refine lv_iload X.1 X.2.1 zd_L_law_741 (lv_at hl 0 rfl) ?_
  refine lv_iconst (v := nI 1) X.1 X.2.1 zd_L_law_743 (by decide) ?_
  refine lv_iadd X.1 X.2.1 zd_L_law_744 ?_
  refine z_top (nI_add _ _) ?_
  refine z_sld X hX hbl hS (by omega) hL zd_L_law_745 ?_
  refine lv_aload_n X.1 X.2.1 zd_L_law_746 rfl (lv_at hl 4 rfl) ?_
  refine lv_iload X.1 X.2.1 zd_L_law_747 (lv_at hl 0 rfl) ?_
  refine lv_iconst (v := nI 2) X.1 X.2.1 zd_L_law_749 (by decide) ?_
  refine lv_iadd X.1 X.2.1 zd_L_law_750 ?_
  refine z_top (nI_add _ _) ?_
  refine z_sld X hX hbl hS (by omega) hL zd_L_law_751 ?_
  refine z_callPi (A1 := AM) (As := [.int (xs (i + 1)), .int (xs (i + 2))]) (rest := [.int r]) (q0 := 0) (ci := 4) X hml hcM (zk_L_91 X.2.2.2.1 (z_rmL hkm (by decide))) rfl rfl rfl hPM haM hS rfl hl.1 rfl (Nat.le_of_ble_eq_true rfl) zd_L_law_752 ⟨Nat.le_of_succ_le hcs.1, by omega⟩ (fun H locs hPM hz hk9 hS => ?_)
  have hPC := lk_CM hC hcm hk9 hPC
  have hPO := lk_O hmo hk9 hPO
  refine lv_icmp_eq (tgt := 760) X.1 X.2.1 zd_L_law_755 (by decide) (fun _ => ?_) (fun h9 => absurd rfl h9)
  exact W.widen (by omega) (by omega) (kont σ2 m2 f H locs ls hR2 hPC hPM hPO hS hl)

theorem zw_Lini : Cond.initialized zy_L_result.cls ∈ zW := zin 30 (by decide +kernel) rfl
theorem zTh_at {s U : State} {H : Heap} {locs : List Loc} (h : zTh s) (hS : va_S (lA s) s.heap H locs) (hU : U.heap = H) (hW : s.WarmedH U.vm) : zTh U := h.to hW fun a ha => by rw [hU]; exact hS.2.1 a ha (Nat.not_le.mpr ha)
set_option maxHeartbeats 4000000 in
set_option maxRecDepth 100000 in
/-- result -/
theorem law_10 {p : Program} {l : Launch} {e : Env} {s : State} {m : MethodId} {below : List Frame} {meth : Method} {c : Code} {H : Heap} {locs : List Loc} {cells slots : Nat} {Q : State → Prop} {ls : Array Slot} {K : zK} {GC GM : Nat → Nat} {AC AM : Nat → Prop} {o b L i : Nat} {xs : Nat → Int32} {σ : cS} {mm : mS} {f : Nat → Int64} (F : lC l K GC GM AC AM o b L xs p s m c) (hL : L ≤ 3072) (hi : i + 6 ≤ L) (hcs : cells + 1 ≤ room_1.cells ∧ slots + 6 ≤ room_1.slots) (hR : Rel σ mm) (hPC : va_P K.1 zcl (cW K GC σ) H) (hPM : va_P K.1 zcl (mW K GM mm) H) (hPO : va_P K.1 zcl (lO K o f) H) (hS : va_S (lA s) s.heap H locs) (hl : lv_has ls 8 (lLv b i o GC GM))
    (kont : ∀ (σ : cS) (mm : mS) (f : Nat → Int64) (H : Heap) (locs : List Loc) (ls : Array Slot), Rel σ mm → va_P K.1 zcl (cW K GC σ) H → va_P K.1 zcl (mW K GM mm) H → va_P K.1 zcl (lO K o f) H → va_S (lA s) s.heap H locs → lv_has ls 8 (lLv b i o GC GM) → W p l e room_1 s m #[.ref b] below meth c H locs (cells + 1) (slots + 6) Q (F0 m 760 ls [])) : W p l e room_1 s m #[.ref b] below meth c H locs cells slots Q (F0 m 594 ls []) := by
  obtain ⟨X, hml, hX, hbl, hth, htr, hC, hM, hcm, hco, hmo, haC, haM, haO⟩ := F
  have hor := op_result (GC := GC) htr hM hR (xs (i + 1)) (xs (i + 2)) (xs (i + 3))
  refine lv_aload_n X.1 X.2.1 zd_L_law_594 rfl (lv_at hl 3 rfl) ?_
  refine lv_aload_n X.1 X.2.1 zd_L_law_595 rfl (lv_at hl 4 rfl) ?_
  refine lv_iload X.1 X.2.1 zd_L_law_596 (lv_at hl 0 rfl) ?_
  refine lv_iconst (v := nI 1) X.1 X.2.1 zd_L_law_598 (by decide) ?_
  refine lv_iadd X.1 X.2.1 zd_L_law_599 ?_
  refine z_top (nI_add _ _) ?_
  refine z_sld X hX hbl hS (by omega) hL zd_L_law_600 ?_
  refine lv_aload_n X.1 X.2.1 zd_L_law_601 rfl (lv_at hl 4 rfl) ?_
  refine lv_iload X.1 X.2.1 zd_L_law_602 (lv_at hl 0 rfl) ?_
  refine lv_iconst (v := nI 2) X.1 X.2.1 zd_L_law_604 (by decide) ?_
  refine lv_iadd X.1 X.2.1 zd_L_law_605 ?_
  refine z_top (nI_add _ _) ?_
  refine z_sld X hX hbl hS (by omega) hL zd_L_law_606 ?_
  refine lv_aload_n X.1 X.2.1 zd_L_law_607 rfl (lv_at hl 4 rfl) ?_
  refine lv_iload X.1 X.2.1 zd_L_law_608 (lv_at hl 0 rfl) ?_
  refine lv_iconst (v := nI 3) X.1 X.2.1 zd_L_law_610 (by decide) ?_
  refine lv_iadd X.1 X.2.1 zd_L_law_611 ?_
  refine z_top (nI_add _ _) ?_
  refine z_sld X hX hbl hS (by omega) hL zd_L_law_612 ?_
  refine lv_aload_n X.1 X.2.1 zd_L_law_613 rfl (lv_at hl 1 rfl) ?_
  rcases hor with ⟨E, j, v, hj, hcC, hcM⟩ | ⟨v, hcC, hcM⟩
  · rcases hj with ⟨rfl, rfl⟩ | ⟨rfl, rfl⟩
    · refine z_callSW (A1 := fun _ => False) (mc := 1) (ms := 6) (n := 5) (r := nI 1) (As := [.ref (GC 0), .int (xs (i + 1)), .int (xs (i + 2)), .int (xs (i + 3)), .ref o]) (rest := []) X hml (t_L_result_1 (o := o) hcC) zPreT_blind rfl rfl (by decide) (by decide) zw_Lr zw_396 zw_397 zw_Lini (by decide) (by decide +kernel) (fun U hU hWm => ⟨⟨rfl, by rw [hU]; exact hPC, va_K.moved hWm.alike X.2.2.2.2⟩, zTh_at hth hS hU hWm⟩) (fun _ h => h.elim) hS rfl hl.1 rfl (Nat.le_of_ble_eq_true rfl) zd_L_law_614 hcs (fun H locs hPL hz hk9 hS => ?_)
      have hPC := lk_all hk9 hPC
      have hPM := lk_all hk9 hPM
      have hPO := lk_all hk9 hPO
      refine lv_istore (lv' := [(5, .int (nI 1)), (4, .int (nI i)), (3, .ref o), (2, .ref (GM 0)), (1, .ref (GC 0)), (0, .ref b)]) X.1 X.2.1 zd_L_law_617 hl (by decide) rfl (fun ls hl => ?_)
      refine lv_aload_n X.1 X.2.1 zd_L_law_619 rfl (lv_at hl 3 rfl) ?_
      refine lv_aload_n X.1 X.2.1 zd_L_law_620 rfl (lv_at hl 5 rfl) ?_
      refine lv_iload X.1 X.2.1 zd_L_law_621 (lv_at hl 1 rfl) ?_
      refine lv_iconst (v := nI 1) X.1 X.2.1 zd_L_law_623 (by decide) ?_
      refine lv_iadd X.1 X.2.1 zd_L_law_624 ?_
      refine z_top (nI_add _ _) ?_
      refine z_sld X hX hbl hS (by omega) hL zd_L_law_625 ?_
      refine lv_aload_n X.1 X.2.1 zd_L_law_626 rfl (lv_at hl 5 rfl) ?_
      refine lv_iload X.1 X.2.1 zd_L_law_627 (lv_at hl 1 rfl) ?_
      refine lv_iconst (v := nI 2) X.1 X.2.1 zd_L_law_629 (by decide) ?_
      refine lv_iadd X.1 X.2.1 zd_L_law_630 ?_
      refine z_top (nI_add _ _) ?_
      refine z_sld X hX hbl hS (by omega) hL zd_L_law_631 ?_
      refine lv_aload_n X.1 X.2.1 zd_L_law_632 rfl (lv_at hl 5 rfl) ?_
      refine lv_iload X.1 X.2.1 zd_L_law_633 (lv_at hl 1 rfl) ?_
      refine lv_iconst (v := nI 3) X.1 X.2.1 zd_L_law_635 (by decide) ?_
      refine lv_iadd X.1 X.2.1 zd_L_law_636 ?_
      refine z_top (nI_add _ _) ?_
      refine z_sld X hX hbl hS (by omega) hL zd_L_law_637 ?_
      refine z_callPl (A1 := AM) (As := [.int (xs (i + 1)), .int (xs (i + 2)), .int (xs (i + 3))]) (rest := []) (q0 := 0) (ci := 4) X hml hcM (zk_L_75 X.2.2.2.1 (z_rmL (by decide) (by decide))) rfl rfl rfl hPM haM hS rfl hl.1 rfl (Nat.le_of_ble_eq_true rfl) zd_L_law_638 ⟨by omega, by omega⟩ (fun H locs hPM hz hk9 hS => ?_)
      have hPC := lk_CM hC hcm hk9 hPC
      have hPO := lk_O hmo hk9 hPO
      refine lv_lstore (lv' := [(6, .long v), (5, .int (nI 1)), (4, .int (nI i)), (3, .ref o), (2, .ref (GM 0)), (1, .ref (GC 0)), (0, .ref b)]) X.1 X.2.1 zd_L_law_641 hl (by decide) rfl (fun ls hl => ?_)
      refine lv_aload_n X.1 X.2.1 zd_L_law_643 rfl (lv_at hl 4 rfl) ?_
      refine z_callPi (A1 := AM) (As := []) (rest := []) (q0 := 0) (ci := 4) X hml (r_thrown l K GM AM hM (p_mR_thrown mm 1)) (zk_L_76 X.2.2.2.1 (z_rmL (by decide) (by decide))) rfl rfl rfl hPM haM hS rfl hl.1 rfl (Nat.le_of_ble_eq_true rfl) zd_L_law_644 ⟨by omega, by omega⟩ (fun H locs hPM hz hk9 hS => ?_)
      have hPC := lk_CM hC hcm hk9 hPC
      have hPO := lk_O hmo hk9 hPO
      refine z_top (y := nI 1) rfl ?_
      refine lv_iload X.1 X.2.1 zd_L_law_647 (lv_at hl 1 rfl) ?_
      refine lv_icmp_eq (tgt := 654) X.1 X.2.1 zd_L_law_649 (by decide) (fun _ => ?_) (fun h9 => absurd rfl h9)
      refine lv_iload X.1 X.2.1 zd_L_law_654 (lv_at hl 1 rfl) ?_
      refine lv_if_ne (tgt := 670) X.1 X.2.1 zd_L_law_656 (by decide) (fun _ => ?_) (fun h9 => absurd h9 (by decide))
      refine lv_goto (tgt := 760) X.1 X.2.1 zd_L_law_670 (by decide) ?_
      exact kont σ (p_mR_thrown mm 1) f H locs ls (hR.thrown 1) hPC hPM hPO hS (lv_sub hl [2, 3, 4, 5, 6] rfl)
    · refine z_callSW (A1 := fun _ => False) (mc := 1) (ms := 6) (n := 5) (r := nI 2) (As := [.ref (GC 0), .int (xs (i + 1)), .int (xs (i + 2)), .int (xs (i + 3)), .ref o]) (rest := []) X hml (t_L_result_2 (o := o) hcC) zPreT_blind rfl rfl (by decide) (by decide) zw_Lr zw_396 zw_397 zw_Lini (by decide) (by decide +kernel) (fun U hU hWm => ⟨⟨rfl, by rw [hU]; exact hPC, va_K.moved hWm.alike X.2.2.2.2⟩, zTh_at hth hS hU hWm⟩) (fun _ h => h.elim) hS rfl hl.1 rfl (Nat.le_of_ble_eq_true rfl) zd_L_law_614 hcs (fun H locs hPL hz hk9 hS => ?_)
      have hPC := lk_all hk9 hPC
      have hPM := lk_all hk9 hPM
      have hPO := lk_all hk9 hPO
      refine lv_istore (lv' := [(5, .int (nI 2)), (4, .int (nI i)), (3, .ref o), (2, .ref (GM 0)), (1, .ref (GC 0)), (0, .ref b)]) X.1 X.2.1 zd_L_law_617 hl (by decide) rfl (fun ls hl => ?_)
      refine lv_aload_n X.1 X.2.1 zd_L_law_619 rfl (lv_at hl 3 rfl) ?_
      refine lv_aload_n X.1 X.2.1 zd_L_law_620 rfl (lv_at hl 5 rfl) ?_
      refine lv_iload X.1 X.2.1 zd_L_law_621 (lv_at hl 1 rfl) ?_
      refine lv_iconst (v := nI 1) X.1 X.2.1 zd_L_law_623 (by decide) ?_
      refine lv_iadd X.1 X.2.1 zd_L_law_624 ?_
      refine z_top (nI_add _ _) ?_
      refine z_sld X hX hbl hS (by omega) hL zd_L_law_625 ?_
      refine lv_aload_n X.1 X.2.1 zd_L_law_626 rfl (lv_at hl 5 rfl) ?_
      refine lv_iload X.1 X.2.1 zd_L_law_627 (lv_at hl 1 rfl) ?_
      refine lv_iconst (v := nI 2) X.1 X.2.1 zd_L_law_629 (by decide) ?_
      refine lv_iadd X.1 X.2.1 zd_L_law_630 ?_
      refine z_top (nI_add _ _) ?_
      refine z_sld X hX hbl hS (by omega) hL zd_L_law_631 ?_
      refine lv_aload_n X.1 X.2.1 zd_L_law_632 rfl (lv_at hl 5 rfl) ?_
      refine lv_iload X.1 X.2.1 zd_L_law_633 (lv_at hl 1 rfl) ?_
      refine lv_iconst (v := nI 3) X.1 X.2.1 zd_L_law_635 (by decide) ?_
      refine lv_iadd X.1 X.2.1 zd_L_law_636 ?_
      refine z_top (nI_add _ _) ?_
      refine z_sld X hX hbl hS (by omega) hL zd_L_law_637 ?_
      refine z_callPl (A1 := AM) (As := [.int (xs (i + 1)), .int (xs (i + 2)), .int (xs (i + 3))]) (rest := []) (q0 := 0) (ci := 4) X hml hcM (zk_L_75 X.2.2.2.1 (z_rmL (by decide) (by decide))) rfl rfl rfl hPM haM hS rfl hl.1 rfl (Nat.le_of_ble_eq_true rfl) zd_L_law_638 ⟨by omega, by omega⟩ (fun H locs hPM hz hk9 hS => ?_)
      have hPC := lk_CM hC hcm hk9 hPC
      have hPO := lk_O hmo hk9 hPO
      refine lv_lstore (lv' := [(6, .long v), (5, .int (nI 2)), (4, .int (nI i)), (3, .ref o), (2, .ref (GM 0)), (1, .ref (GC 0)), (0, .ref b)]) X.1 X.2.1 zd_L_law_641 hl (by decide) rfl (fun ls hl => ?_)
      refine lv_aload_n X.1 X.2.1 zd_L_law_643 rfl (lv_at hl 4 rfl) ?_
      refine z_callPi (A1 := AM) (As := []) (rest := []) (q0 := 0) (ci := 4) X hml (r_thrown l K GM AM hM (p_mR_thrown mm 2)) (zk_L_76 X.2.2.2.1 (z_rmL (by decide) (by decide))) rfl rfl rfl hPM haM hS rfl hl.1 rfl (Nat.le_of_ble_eq_true rfl) zd_L_law_644 ⟨by omega, by omega⟩ (fun H locs hPM hz hk9 hS => ?_)
      have hPC := lk_CM hC hcm hk9 hPC
      have hPO := lk_O hmo hk9 hPO
      refine z_top (y := nI 2) rfl ?_
      refine lv_iload X.1 X.2.1 zd_L_law_647 (lv_at hl 1 rfl) ?_
      refine lv_icmp_eq (tgt := 654) X.1 X.2.1 zd_L_law_649 (by decide) (fun _ => ?_) (fun h9 => absurd rfl h9)
      refine lv_iload X.1 X.2.1 zd_L_law_654 (lv_at hl 1 rfl) ?_
      refine lv_if_ne (tgt := 670) X.1 X.2.1 zd_L_law_656 (by decide) (fun _ => ?_) (fun h9 => absurd h9 (by decide))
      refine lv_goto (tgt := 760) X.1 X.2.1 zd_L_law_670 (by decide) ?_
      exact kont σ (p_mR_thrown mm 2) f H locs ls (hR.thrown 2) hPC hPM hPO hS (lv_sub hl [2, 3, 4, 5, 6] rfl)
  · refine z_callSW (A1 := fun q => q = o) (mc := 0) (ms := 0) (n := 5) (r := nI 0) (As := [.ref (GC 0), .int (xs (i + 1)), .int (xs (i + 2)), .int (xs (i + 3)), .ref o]) (rest := []) X hml (t_L_result_0 (o := o) (f := f) (by decide) hcC) zPre_blind rfl rfl (by decide) (by decide) zw_Lr zw_396 zw_397 zw_Lini (by decide) (by decide +kernel) (fun U hU hWm => ⟨rfl, by rw [hU]; exact va_P.app hPC hPO, va_K.moved hWm.alike X.2.2.2.2⟩) (fun _ h => by rw [h]; exact haO) hS rfl hl.1 rfl (Nat.le_of_ble_eq_true rfl) zd_L_law_614 ⟨Nat.le_of_succ_le hcs.1, by omega⟩ (fun H locs hPL hz hk9 hS => ?_)
    have hPC := lk_oC hC hco hk9 hPC
    have hPM := lk_oM hM hmo hk9 hPM
    have hPO : va_P K.1 zcl (lO K o (vp_updL f 0 v)) H := hPL
    refine lv_istore (lv' := [(5, .int (nI 0)), (4, .int (nI i)), (3, .ref o), (2, .ref (GM 0)), (1, .ref (GC 0)), (0, .ref b)]) X.1 X.2.1 zd_L_law_617 hl (by decide) rfl (fun ls hl => ?_)
    refine lv_aload_n X.1 X.2.1 zd_L_law_619 rfl (lv_at hl 3 rfl) ?_
    refine lv_aload_n X.1 X.2.1 zd_L_law_620 rfl (lv_at hl 5 rfl) ?_
    refine lv_iload X.1 X.2.1 zd_L_law_621 (lv_at hl 1 rfl) ?_
    refine lv_iconst (v := nI 1) X.1 X.2.1 zd_L_law_623 (by decide) ?_
    refine lv_iadd X.1 X.2.1 zd_L_law_624 ?_
    refine z_top (nI_add _ _) ?_
    refine z_sld X hX hbl hS (by omega) hL zd_L_law_625 ?_
    refine lv_aload_n X.1 X.2.1 zd_L_law_626 rfl (lv_at hl 5 rfl) ?_
    refine lv_iload X.1 X.2.1 zd_L_law_627 (lv_at hl 1 rfl) ?_
    refine lv_iconst (v := nI 2) X.1 X.2.1 zd_L_law_629 (by decide) ?_
    refine lv_iadd X.1 X.2.1 zd_L_law_630 ?_
    refine z_top (nI_add _ _) ?_
    refine z_sld X hX hbl hS (by omega) hL zd_L_law_631 ?_
    refine lv_aload_n X.1 X.2.1 zd_L_law_632 rfl (lv_at hl 5 rfl) ?_
    refine lv_iload X.1 X.2.1 zd_L_law_633 (lv_at hl 1 rfl) ?_
    refine lv_iconst (v := nI 3) X.1 X.2.1 zd_L_law_635 (by decide) ?_
    refine lv_iadd X.1 X.2.1 zd_L_law_636 ?_
    refine z_top (nI_add _ _) ?_
    refine z_sld X hX hbl hS (by omega) hL zd_L_law_637 ?_
    refine z_callPl (A1 := AM) (As := [.int (xs (i + 1)), .int (xs (i + 2)), .int (xs (i + 3))]) (rest := []) (q0 := 0) (ci := 4) X hml hcM (zk_L_75 X.2.2.2.1 (z_rmL (by decide) (by decide))) rfl rfl rfl hPM haM hS rfl hl.1 rfl (Nat.le_of_ble_eq_true rfl) zd_L_law_638 ⟨Nat.le_of_succ_le hcs.1, by omega⟩ (fun H locs hPM hz hk9 hS => ?_)
    have hPC := lk_CM hC hcm hk9 hPC
    have hPO := lk_O hmo hk9 hPO
    refine lv_lstore (lv' := [(6, .long v), (5, .int (nI 0)), (4, .int (nI i)), (3, .ref o), (2, .ref (GM 0)), (1, .ref (GC 0)), (0, .ref b)]) X.1 X.2.1 zd_L_law_641 hl (by decide) rfl (fun ls hl => ?_)
    refine lv_aload_n X.1 X.2.1 zd_L_law_643 rfl (lv_at hl 4 rfl) ?_
    refine z_callPi (A1 := AM) (As := []) (rest := []) (q0 := 0) (ci := 4) X hml (r_thrown l K GM AM hM (p_mR_thrown mm 0)) (zk_L_76 X.2.2.2.1 (z_rmL (by decide) (by decide))) rfl rfl rfl hPM haM hS rfl hl.1 rfl (Nat.le_of_ble_eq_true rfl) zd_L_law_644 ⟨Nat.le_of_succ_le hcs.1, by omega⟩ (fun H locs hPM hz hk9 hS => ?_)
    have hPC := lk_CM hC hcm hk9 hPC
    have hPO := lk_O hmo hk9 hPO
    refine z_top (y := nI 0) rfl ?_
    refine lv_iload X.1 X.2.1 zd_L_law_647 (lv_at hl 1 rfl) ?_
    refine lv_icmp_eq (tgt := 654) X.1 X.2.1 zd_L_law_649 (by decide) (fun _ => ?_) (fun h9 => absurd rfl h9)
    refine lv_iload X.1 X.2.1 zd_L_law_654 (lv_at hl 1 rfl) ?_
    refine lv_if_ne (tgt := 670) X.1 X.2.1 zd_L_law_656 (by decide) (fun h9 => absurd (by decide) h9) (fun _ => ?_)
    refine lv_aload_n X.1 X.2.1 zd_L_law_659 rfl (lv_at hl 3 rfl) ?_
    refine lv_iconst (v := nI 0) X.1 X.2.1 zd_L_law_660 (by decide) ?_
    refine z_lald (q0 := 0) X hPO rfl (by decide) (by decide) zd_L_law_661 ?_
    refine z_topl (y := v) (if_pos rfl) ?_
    refine lv_lload X.1 X.2.1 zd_L_law_662 (lv_at hl 0 rfl) ?_
    refine W.lcmp X.1 X.2.1 zd_L_law_664 ?_
    refine lv_if_eq (tgt := 670) X.1 X.2.1 zd_L_law_665 (by decide) (fun _ => ?_) (fun h9 => absurd ((lg_cmp_eq v v).mpr rfl) h9)
    refine lv_goto (tgt := 760) X.1 X.2.1 zd_L_law_670 (by decide) ?_
    exact W.widen (by omega) (by omega) (kont σ (p_mR_thrown mm 0) _ H locs ls (hR.thrown 0) hPC hPM hPO hS (lv_sub hl [2, 3, 4, 5, 6] rfl))
