/-! the words of every call (by program: wip/gen/cls.py) -/
theorem zk_M_31 {R : Room} {s : State} {args : Array Value} (hts : ∀ w ∈ zW, w.before args s = true) {k : Nat} (hR : (zrm k).frames + 1 ≤ R.frames ∧ 8 + (4 + 11) + (zrm k).locals ≤ R.locals) : CallB R s args zR_M 31 zy_Ja_fill zb_Ja_fill 4 none zws_Ja_fill (zrm k) 0 0 2 ∧ (Cond.static zy_Ja_fill).before args s = true :=
  va_cwS 2 hts (z_goodS zw_92 zw_93 zw_5 zw_94) rfl rfl rfl (by decide +kernel) hR
theorem zk_W_34 {R : Room} {s : State} {args : Array Value} (hts : ∀ w ∈ zW, w.before args s = true) {k : Nat} (hR : (zrm k).frames + 1 ≤ R.frames ∧ 8 + (4 + 11) + (zrm k).locals ≤ R.locals) : CallB R s args zR_W 34 zy_Ja_fill zb_Ja_fill 4 none zws_Ja_fill (zrm k) 0 0 2 ∧ (Cond.static zy_Ja_fill).before args s = true :=
  va_cwS 2 hts (z_goodS zw_117 zw_93 zw_5 zw_94) rfl rfl rfl (by decide +kernel) hR
theorem zk_L_23 {R : Room} {s : State} {args : Array Value} (hts : ∀ w ∈ zW, w.before args s = true) {k : Nat} (hR : (zrm k).frames + 1 ≤ R.frames ∧ 8 + (4 + 11) + (zrm k).locals ≤ R.locals) : CallW R s args zR_L zR_W 23 zy_W_target zb_W_target 4 (some .int) zws_W_target (zrm k) 0 0 2 :=
  cwV 2 hts (z_goodV zw_131 zw_132 zw_133 zw_1 zw_134) rfl rfl rfl (by decide +kernel) hR
theorem zk_W_40 {R : Room} {s : State} {args : Array Value} (hts : ∀ w ∈ zW, w.before args s = true) {k : Nat} (hR : (zrm k).frames + 1 ≤ R.frames ∧ 8 + (5 + 11) + (zrm k).locals ≤ R.locals) : CallW R s args zR_W zR_T 40 zy_T_open zb_T_open 5 (some .int) zws_T_open (zrm k) 0 0 2 :=
  cwV 2 hts (z_goodV zw_135 zw_136 zw_137 zw_2 zw_138) rfl rfl rfl (by decide +kernel) hR
theorem zk_L_28 {R : Room} {s : State} {args : Array Value} (hts : ∀ w ∈ zW, w.before args s = true) {k : Nat} (hR : (zrm k).frames + 1 ≤ R.frames ∧ 8 + (2 + 11) + (zrm k).locals ≤ R.locals) : CallW R s args zR_L zR_W 28 zy_W_alias zb_W_alias 2 (some .int) zws_W_alias (zrm k) 0 0 1 :=
  cwV 1 hts (z_goodV zw_139 zw_140 zw_141 zw_1 zw_142) rfl rfl rfl (by decide +kernel) hR
theorem zk_W_44 {R : Room} {s : State} {args : Array Value} (hts : ∀ w ∈ zW, w.before args s = true) {k : Nat} (hR : (zrm k).frames + 1 ≤ R.frames ∧ 8 + (2 + 11) + (zrm k).locals ≤ R.locals) : CallW R s args zR_W zR_T 44 zy_T_has zb_T_has 2 (some .boolean) zws_T_has (zrm k) 0 0 1 :=
  cwV 1 hts (z_goodV zw_143 zw_144 zw_145 zw_2 zw_146) rfl rfl rfl (by decide +kernel) hR
theorem zk_W_48 {R : Room} {s : State} {args : Array Value} (hts : ∀ w ∈ zW, w.before args s = true) {k : Nat} (hR : (zrm k).frames + 1 ≤ R.frames ∧ 8 + (3 + 11) + (zrm k).locals ≤ R.locals) : CallW R s args zR_W zR_T 48 zy_T_openAlias zb_T_openAlias 3 (some .int) zws_T_openAlias (zrm k) 0 0 1 :=
  cwV 1 hts (z_goodV zw_147 zw_148 zw_149 zw_2 zw_150) rfl rfl rfl (by decide +kernel) hR
theorem zk_L_33 {R : Room} {s : State} {args : Array Value} (hts : ∀ w ∈ zW, w.before args s = true) {k : Nat} (hR : (zrm k).frames + 1 ≤ R.frames ∧ 8 + (2 + 11) + (zrm k).locals ≤ R.locals) : CallW R s args zR_L zR_W 33 zy_W_stands zb_W_stands 2 (some .int) zws_W_stands (zrm k) 0 0 1 :=
  cwV 1 hts (z_goodV zw_151 zw_152 zw_153 zw_1 zw_154) rfl rfl rfl (by decide +kernel) hR
theorem zk_W_52 {R : Room} {s : State} {args : Array Value} (hts : ∀ w ∈ zW, w.before args s = true) {k : Nat} (hR : (zrm k).frames + 1 ≤ R.frames ∧ 8 + (2 + 11) + (zrm k).locals ≤ R.locals) : CallW R s args zR_W zR_T 52 zy_T_end zb_T_end 2 (some .int) zws_T_end (zrm k) 0 0 1 :=
  cwV 1 hts (z_goodV zw_155 zw_156 zw_157 zw_2 zw_158) rfl rfl rfl (by decide +kernel) hR
theorem zk_L_37 {R : Room} {s : State} {args : Array Value} (hts : ∀ w ∈ zW, w.before args s = true) {k : Nat} (hR : (zrm k).frames + 1 ≤ R.frames ∧ 8 + (4 + 11) + (zrm k).locals ≤ R.locals) : CallW R s args zR_L zR_W 37 zy_W_add zb_W_add 4 (some .boolean) zws_W_add (zrm k) 0 0 3 :=
  cwV 3 hts (z_goodV zw_159 zw_160 zw_161 zw_1 zw_162) rfl rfl rfl (by decide +kernel) hR
theorem zk_W_55 {R : Room} {s : State} {args : Array Value} (hts : ∀ w ∈ zW, w.before args s = true) {k : Nat} (hR : (zrm k).frames + 1 ≤ R.frames ∧ 8 + (2 + 11) + (zrm k).locals ≤ R.locals) : CallW R s args zR_W zR_T 55 zy_T_isAlias zb_T_isAlias 2 (some .boolean) zws_T_isAlias (zrm k) 0 0 1 :=
  cwV 1 hts (z_goodV zw_163 zw_164 zw_165 zw_2 zw_166) rfl rfl rfl (by decide +kernel) hR
theorem zk_W_58 {R : Room} {s : State} {args : Array Value} (hts : ∀ w ∈ zW, w.before args s = true) {k : Nat} (hR : (zrm k).frames + 1 ≤ R.frames ∧ 8 + (7 + 11) + (zrm k).locals ≤ R.locals) : CallW R s args zR_W zR_T 58 zy_T_append zb_T_append 7 (some .boolean) zws_T_append (zrm k) 0 0 3 :=
  cwV 3 hts (z_goodV zw_167 zw_168 zw_169 zw_2 zw_170) rfl rfl rfl (by decide +kernel) hR
theorem zk_T_35 {R : Room} {s : State} {args : Array Value} (hts : ∀ w ∈ zW, w.before args s = true) {k : Nat} (hR : (zrm k).frames + 1 ≤ R.frames ∧ 8 + (3 + 11) + (zrm k).locals ≤ R.locals) : CallW R s args zR_T zR_T 35 zy_T_leadsTo zb_T_leadsTo 3 (some .boolean) zws_T_leadsTo (zrm k) 0 0 2 :=
  cwV 2 hts (z_goodV zw_171 zw_172 zw_173 zw_2 zw_174) rfl rfl rfl (by decide +kernel) hR
theorem zk_W_62 {R : Room} {s : State} {args : Array Value} (hts : ∀ w ∈ zW, w.before args s = true) {k : Nat} (hR : (zrm k).frames + 1 ≤ R.frames ∧ 8 + (4 + 11) + (zrm k).locals ≤ R.locals) : CallW R s args zR_W zR_W 62 zy_W_forgetFrom zb_W_forgetFrom 4 none zws_W_forgetFrom (zrm k) 0 0 1 :=
  cwV 1 hts (z_goodV zw_175 zw_177 zsel_W_forgetFrom zw_1 zw_178) rfl rfl rfl (by decide +kernel) hR
theorem zk_W_212 {R : Room} {s : State} {args : Array Value} (hts : ∀ w ∈ zW, w.before args s = true) {k : Nat} (hR : (zrm k).frames + 1 ≤ R.frames ∧ 8 + (1 + 11) + (zrm k).locals ≤ R.locals) : CallW R s args zR_W zR_T 212 zy_T_count zb_T_count 1 (some .int) zws_T_count (zrm k) 0 0 0 :=
  cwV 0 hts (z_goodV zw_179 zw_180 zw_181 zw_2 zw_182) rfl rfl rfl (by decide +kernel) hR
theorem zk_W_215 {R : Room} {s : State} {args : Array Value} (hts : ∀ w ∈ zW, w.before args s = true) {k : Nat} (hR : (zrm k).frames + 1 ≤ R.frames ∧ 8 + (3 + 11) + (zrm k).locals ≤ R.locals) : CallW R s args zR_W zR_T 215 zy_T_leadsTo zb_T_leadsTo 3 (some .boolean) zws_T_leadsTo (zrm k) 0 0 2 :=
  cwV 2 hts (z_goodV zw_183 zw_172 zw_173 zw_2 zw_174) rfl rfl rfl (by decide +kernel) hR
theorem zk_W_216 {R : Room} {s : State} {args : Array Value} (hts : ∀ w ∈ zW, w.before args s = true) {k : Nat} (hR : (zrm k).frames + 1 ≤ R.frames ∧ 8 + (1 + 11) + (zrm k).locals ≤ R.locals) : CallW R s args zR_W zR_A 216 zy_A_count zb_A_count 1 (some .int) zws_A_count (zrm k) 0 0 0 :=
  cwV 0 hts (z_goodV zw_184 zw_185 zw_186 zw_3 zw_187) rfl rfl rfl (by decide +kernel) hR
theorem zk_W_176 {R : Room} {s : State} {args : Array Value} (hts : ∀ w ∈ zW, w.before args s = true) {k : Nat} (hR : (zrm k).frames + 1 ≤ R.frames ∧ 8 + (2 + 11) + (zrm k).locals ≤ R.locals) : CallW R s args zR_W zR_A 176 zy_A_nameOf zb_A_nameOf 2 (some .int) zws_A_nameOf (zrm k) 0 0 1 :=
  cwV 1 hts (z_goodV zw_188 zw_189 zw_190 zw_3 zw_191) rfl rfl rfl (by decide +kernel) hR
theorem zk_W_217 {R : Room} {s : State} {args : Array Value} (hts : ∀ w ∈ zW, w.before args s = true) {k : Nat} (hR : (zrm k).frames + 1 ≤ R.frames ∧ 8 + (5 + 11) + (zrm k).locals ≤ R.locals) : CallW R s args zR_W zR_M 217 zy_M_forget zb_M_forget 5 none zws_M_forget (zrm k) 0 0 3 :=
  cwV 3 hts (z_goodV zw_192 zw_193 zw_194 zw_4 zw_195) rfl rfl rfl (by decide +kernel) hR
theorem zk_M_37 {R : Room} {s : State} {args : Array Value} (hts : ∀ w ∈ zW, w.before args s = true) {k : Nat} (hR : (zrm k).frames + 1 ≤ R.frames ∧ 8 + (2 + 11) + (zrm k).locals ≤ R.locals) : CallB R s args zR_M 37 zy_M_pair zb_M_pair 2 (some .int) zws_M_pair (zrm k) 0 0 2 ∧ (Cond.static zy_M_pair).before args s = true :=
  va_cwS 2 hts (z_goodS zw_196 zw_197 zw_4 zw_198) rfl rfl rfl (by decide +kernel) hR
theorem zk_M_45 {R : Room} {s : State} {args : Array Value} (hts : ∀ w ∈ zW, w.before args s = true) {k : Nat} (hR : (zrm k).frames + 1 ≤ R.frames ∧ 8 + (1 + 11) + (zrm k).locals ≤ R.locals) : CallB R s args zR_M 45 zy_Ji_bitCount zb_Ji_bitCount 1 (some .int) zws_Ji_bitCount (zrm k) 0 0 1 ∧ (Cond.static zy_Ji_bitCount).before args s = true :=
  va_cwS 1 hts (z_goodS zw_199 zw_200 zw_7 zw_201) rfl rfl rfl (by decide +kernel) hR
theorem zk_M_51 {R : Room} {s : State} {args : Array Value} (hts : ∀ w ∈ zW, w.before args s = true) {k : Nat} (hR : (zrm k).frames + 1 ≤ R.frames ∧ 8 + (3 + 11) + (zrm k).locals ≤ R.locals) : CallW R s args zR_M zR_M 51 zy_M_makerOf zb_M_makerOf 3 (some .int) zws_M_makerOf (zrm k) 0 0 2 :=
  cwV 2 hts (z_goodV zw_205 zw_206 zw_207 zw_4 zw_208) rfl rfl rfl (by decide +kernel) hR
theorem zk_L_42 {R : Room} {s : State} {args : Array Value} (hts : ∀ w ∈ zW, w.before args s = true) {k : Nat} (hR : (zrm k).frames + 1 ≤ R.frames ∧ 8 + (5 + 11) + (zrm k).locals ≤ R.locals) : CallW R s args zR_L zR_W 42 zy_W_change zb_W_change 5 (some .boolean) zws_W_change (zrm k) 0 0 3 :=
  cwV 3 hts (z_goodV zw_209 zw_210 zw_211 zw_1 zw_212) rfl rfl rfl (by decide +kernel) hR
theorem zk_W_66 {R : Room} {s : State} {args : Array Value} (hts : ∀ w ∈ zW, w.before args s = true) {k : Nat} (hR : (zrm k).frames + 1 ≤ R.frames ∧ 8 + (6 + 11) + (zrm k).locals ≤ R.locals) : CallW R s args zR_W zR_T 66 zy_T_assign zb_T_assign 6 (some .boolean) zws_T_assign (zrm k) 0 0 3 :=
  cwV 3 hts (z_goodV zw_213 zw_214 zw_215 zw_2 zw_216) rfl rfl rfl (by decide +kernel) hR
theorem zk_L_47 {R : Room} {s : State} {args : Array Value} (hts : ∀ w ∈ zW, w.before args s = true) {k : Nat} (hR : (zrm k).frames + 1 ≤ R.frames ∧ 8 + (6 + 11) + (zrm k).locals ≤ R.locals) : CallW R s args zR_L zR_W 47 zy_W_aspect zb_W_aspect 6 (some .int) zws_W_aspect (zrm k) 0 0 5 :=
  cwV 5 hts (z_goodV zw_217 zw_218 zw_219 zw_1 zw_220) rfl rfl rfl (by decide +kernel) hR
theorem zk_W_70 {R : Room} {s : State} {args : Array Value} (hts : ∀ w ∈ zW, w.before args s = true) {k : Nat} (hR : (zrm k).frames + 1 ≤ R.frames ∧ 8 + (7 + 11) + (zrm k).locals ≤ R.locals) : CallW R s args zR_W zR_A 70 zy_A_open zb_A_open 7 (some .int) zws_A_open (zrm k) 0 0 5 :=
  cwV 5 hts (z_goodV zw_221 zw_222 zw_223 zw_3 zw_224) rfl rfl rfl (by decide +kernel) hR
theorem zk_L_52 {R : Room} {s : State} {args : Array Value} (hts : ∀ w ∈ zW, w.before args s = true) {k : Nat} (hR : (zrm k).frames + 1 ≤ R.frames ∧ 8 + (3 + 11) + (zrm k).locals ≤ R.locals) : CallW R s args zR_L zR_W 52 zy_W_need zb_W_need 3 (some .int) zws_W_need (zrm k) 0 0 2 :=
  cwV 2 hts (z_goodV zw_225 zw_226 zw_227 zw_1 zw_228) rfl rfl rfl (by decide +kernel) hR
theorem zk_W_73 {R : Room} {s : State} {args : Array Value} (hts : ∀ w ∈ zW, w.before args s = true) {k : Nat} (hR : (zrm k).frames + 1 ≤ R.frames ∧ 8 + (2 + 11) + (zrm k).locals ≤ R.locals) : CallW R s args zR_W zR_A 73 zy_A_has zb_A_has 2 (some .boolean) zws_A_has (zrm k) 0 0 1 :=
  cwV 1 hts (z_goodV zw_229 zw_230 zw_231 zw_3 zw_232) rfl rfl rfl (by decide +kernel) hR
theorem zk_W_74 {R : Room} {s : State} {args : Array Value} (hts : ∀ w ∈ zW, w.before args s = true) {k : Nat} (hR : (zrm k).frames + 1 ≤ R.frames ∧ 8 + (4 + 11) + (zrm k).locals ≤ R.locals) : CallW R s args zR_W zR_A 74 zy_A_needsDirectly zb_A_needsDirectly 4 (some .boolean) zws_A_needsDirectly (zrm k) 0 0 2 :=
  cwV 2 hts (z_goodV zw_233 zw_234 zw_235 zw_3 zw_236) rfl rfl rfl (by decide +kernel) hR
theorem zk_A_40 {R : Room} {s : State} {args : Array Value} (hts : ∀ w ∈ zW, w.before args s = true) {k : Nat} (hR : (zrm k).frames + 1 ≤ R.frames ∧ 8 + (3 + 11) + (zrm k).locals ≤ R.locals) : CallW R s args zR_A zR_A 40 zy_A_needAt zb_A_needAt 3 (some .int) zws_A_needAt (zrm k) 0 0 2 :=
  cwV 2 hts (z_goodV zw_237 zw_238 zw_239 zw_3 zw_240) rfl rfl rfl (by decide +kernel) hR
theorem zk_W_78 {R : Room} {s : State} {args : Array Value} (hts : ∀ w ∈ zW, w.before args s = true) {k : Nat} (hR : (zrm k).frames + 1 ≤ R.frames ∧ 8 + (2 + 11) + (zrm k).locals ≤ R.locals) : CallW R s args zR_W zR_A 78 zy_A_needCount zb_A_needCount 2 (some .int) zws_A_needCount (zrm k) 0 0 1 :=
  cwV 1 hts (z_goodV zw_241 zw_242 zw_243 zw_3 zw_244) rfl rfl rfl (by decide +kernel) hR
theorem zk_W_81 {R : Room} {s : State} {args : Array Value} (hts : ∀ w ∈ zW, w.before args s = true) {k : Nat} (hR : (zrm k).frames + 1 ≤ R.frames ∧ 8 + (3 + 11) + (zrm k).locals ≤ R.locals) : CallW R s args zR_W zR_A 81 zy_A_leadsTo zb_A_leadsTo 3 (some .boolean) zws_A_leadsTo (zrm k) 0 0 2 :=
  cwV 2 hts (z_goodV zw_245 zw_246 zw_247 zw_3 zw_248) rfl rfl rfl (by decide +kernel) hR
theorem zk_W_84 {R : Room} {s : State} {args : Array Value} (hts : ∀ w ∈ zW, w.before args s = true) {k : Nat} (hR : (zrm k).frames + 1 ≤ R.frames ∧ 8 + (4 + 11) + (zrm k).locals ≤ R.locals) : CallW R s args zR_W zR_A 84 zy_A_appendNeed zb_A_appendNeed 4 none zws_A_appendNeed (zrm k) 0 0 2 :=
  cwV 2 hts (z_goodV zw_249 zw_250 zw_251 zw_3 zw_252) rfl rfl rfl (by decide +kernel) hR
theorem zk_A_44 {R : Room} {s : State} {args : Array Value} (hts : ∀ w ∈ zW, w.before args s = true) {k : Nat} (hR : (zrm k).frames + 1 ≤ R.frames ∧ 8 + (3 + 11) + (zrm k).locals ≤ R.locals) : CallW R s args zR_A zR_A 44 zy_A_leadsTo zb_A_leadsTo 3 (some .boolean) zws_A_leadsTo (zrm k) 0 0 2 :=
  cwV 2 hts (z_goodV zw_253 zw_246 zw_247 zw_3 zw_248) rfl rfl rfl (by decide +kernel) hR
theorem zk_W_88 {R : Room} {s : State} {args : Array Value} (hts : ∀ w ∈ zW, w.before args s = true) {k : Nat} (hR : (zrm k).frames + 1 ≤ R.frames ∧ 8 + (4 + 11) + (zrm k).locals ≤ R.locals) : CallW R s args zR_W zR_W 88 zy_W_forgetAllOf zb_W_forgetAllOf 4 none zws_W_forgetAllOf (zrm k) 0 0 1 :=
  cwV 1 hts (z_goodV zw_254 zw_256 zsel_W_forgetAllOf zw_1 zw_257) rfl rfl rfl (by decide +kernel) hR
theorem zk_L_57 {R : Room} {s : State} {args : Array Value} (hts : ∀ w ∈ zW, w.before args s = true) {k : Nat} (hR : (zrm k).frames + 1 ≤ R.frames ∧ 8 + (4 + 11) + (zrm k).locals ≤ R.locals) : CallW R s args zR_L zR_W 57 zy_W_apply zb_W_apply 4 (some .int) zws_W_apply (zrm k) 0 0 3 :=
  cwV 3 hts (z_goodV zw_258 zw_259 zw_260 zw_1 zw_261) rfl rfl rfl (by decide +kernel) hR
theorem zk_W_91 {R : Room} {s : State} {args : Array Value} (hts : ∀ w ∈ zW, w.before args s = true) {k : Nat} (hR : (zrm k).frames + 1 ≤ R.frames ∧ 8 + (4 + 11) + (zrm k).locals ≤ R.locals) : CallW R s args zR_W zR_W 91 zy_W_isAsked zb_W_isAsked 4 (some .boolean) zws_W_isAsked (zrm k) 0 0 3 :=
  cwV 3 hts (z_goodV zw_262 zw_264 zsel_W_isAsked zw_1 zw_265) rfl rfl rfl (by decide +kernel) hR
theorem zk_W_94 {R : Room} {s : State} {args : Array Value} (hts : ∀ w ∈ zW, w.before args s = true) {k : Nat} (hR : (zrm k).frames + 1 ≤ R.frames ∧ 8 + (8 + 11) + (zrm k).locals ≤ R.locals) : CallW R s args zR_W zR_W 94 zy_W_doing zb_W_doing 8 (some .int) zws_W_doing (zrm k) 0 0 4 :=
  cwV 4 hts (z_goodV zw_266 zw_268 zsel_W_doing zw_1 zw_269) rfl rfl rfl (by decide +kernel) hR
theorem zk_W_98 {R : Room} {s : State} {args : Array Value} (hts : ∀ w ∈ zW, w.before args s = true) {k : Nat} (hR : (zrm k).frames + 1 ≤ R.frames ∧ 8 + (5 + 11) + (zrm k).locals ≤ R.locals) : CallW R s args zR_W zR_M 98 zy_M_known zb_M_known 5 (some .int) zws_M_known (zrm k) 0 0 3 :=
  cwV 3 hts (z_goodV zw_270 zw_271 zw_272 zw_4 zw_273) rfl rfl rfl (by decide +kernel) hR
theorem zk_W_129 {R : Room} {s : State} {args : Array Value} (hts : ∀ w ∈ zW, w.before args s = true) {k : Nat} (hR : (zrm k).frames + 1 ≤ R.frames ∧ 8 + (7 + 11) + (zrm k).locals ≤ R.locals) : CallW R s args zR_W zR_W 129 zy_W_doNeeds zb_W_doNeeds 7 (some .int) zws_W_doNeeds (zrm k) 0 0 4 :=
  cwV 4 hts (z_goodV zw_274 zw_276 zsel_W_doNeeds zw_1 zw_277) rfl rfl rfl (by decide +kernel) hR
theorem zk_W_152 {R : Room} {s : State} {args : Array Value} (hts : ∀ w ∈ zW, w.before args s = true) {k : Nat} (hR : (zrm k).frames + 1 ≤ R.frames ∧ 8 + (3 + 11) + (zrm k).locals ≤ R.locals) : CallW R s args zR_W zR_A 152 zy_A_needAt zb_A_needAt 3 (some .int) zws_A_needAt (zrm k) 0 0 2 :=
  cwV 2 hts (z_goodV zw_278 zw_238 zw_239 zw_3 zw_240) rfl rfl rfl (by decide +kernel) hR
theorem zk_W_132 {R : Room} {s : State} {args : Array Value} (hts : ∀ w ∈ zW, w.before args s = true) {k : Nat} (hR : (zrm k).frames + 1 ≤ R.frames ∧ 8 + (7 + 11) + (zrm k).locals ≤ R.locals) : CallW R s args zR_W zR_W 132 zy_W_lacksProvider zb_W_lacksProvider 7 (some .boolean) zws_W_lacksProvider (zrm k) 0 0 3 :=
  cwV 3 hts (z_goodV zw_279 zw_281 zsel_W_lacksProvider zw_1 zw_282) rfl rfl rfl (by decide +kernel) hR
theorem zk_W_167 {R : Room} {s : State} {args : Array Value} (hts : ∀ w ∈ zW, w.before args s = true) {k : Nat} (hR : (zrm k).frames + 1 ≤ R.frames ∧ 8 + (2 + 11) + (zrm k).locals ≤ R.locals) : CallW R s args zR_W zR_T 167 zy_T_providersOf zb_T_providersOf 2 (some .int) zws_T_providersOf (zrm k) 0 0 1 :=
  cwV 1 hts (z_goodV zw_283 zw_284 zw_285 zw_2 zw_286) rfl rfl rfl (by decide +kernel) hR
theorem zk_W_170 {R : Room} {s : State} {args : Array Value} (hts : ∀ w ∈ zW, w.before args s = true) {k : Nat} (hR : (zrm k).frames + 1 ≤ R.frames ∧ 8 + (2 + 11) + (zrm k).locals ≤ R.locals) : CallW R s args zR_W zR_A 170 zy_A_givesOf zb_A_givesOf 2 (some .int) zws_A_givesOf (zrm k) 0 0 1 :=
  cwV 1 hts (z_goodV zw_287 zw_288 zw_289 zw_3 zw_290) rfl rfl rfl (by decide +kernel) hR
theorem zk_W_173 {R : Room} {s : State} {args : Array Value} (hts : ∀ w ∈ zW, w.before args s = true) {k : Nat} (hR : (zrm k).frames + 1 ≤ R.frames ∧ 8 + (2 + 11) + (zrm k).locals ≤ R.locals) : CallW R s args zR_W zR_A 173 zy_A_wantsOf zb_A_wantsOf 2 (some .int) zws_A_wantsOf (zrm k) 0 0 1 :=
  cwV 1 hts (z_goodV zw_291 zw_292 zw_293 zw_3 zw_294) rfl rfl rfl (by decide +kernel) hR
theorem zk_W_135 {R : Room} {s : State} {args : Array Value} (hts : ∀ w ∈ zW, w.before args s = true) {k : Nat} (hR : (zrm k).frames + 1 ≤ R.frames ∧ 8 + (4 + 11) + (zrm k).locals ≤ R.locals) : CallW R s args zR_W zR_M 135 zy_M_keepPassed zb_M_keepPassed 4 none zws_M_keepPassed (zrm k) 0 0 3 :=
  cwV 3 hts (z_goodV zw_295 zw_296 zw_297 zw_4 zw_298) rfl rfl rfl (by decide +kernel) hR
theorem zk_W_139 {R : Room} {s : State} {args : Array Value} (hts : ∀ w ∈ zW, w.before args s = true) {k : Nat} (hR : (zrm k).frames + 1 ≤ R.frames ∧ 8 + (9 + 11) + (zrm k).locals ≤ R.locals) : CallW R s args zR_W zR_W 139 zy_W_doBelow zb_W_doBelow 9 (some .int) zws_W_doBelow (zrm k) 0 0 4 :=
  cwV 4 hts (z_goodV zw_299 zw_301 zsel_W_doBelow zw_1 zw_302) rfl rfl rfl (by decide +kernel) hR
theorem zk_W_155 {R : Room} {s : State} {args : Array Value} (hts : ∀ w ∈ zW, w.before args s = true) {k : Nat} (hR : (zrm k).frames + 1 ≤ R.frames ∧ 8 + (4 + 11) + (zrm k).locals ≤ R.locals) : CallW R s args zR_W zR_W 155 zy_W_lengthAlong zb_W_lengthAlong 4 (some .int) zws_W_lengthAlong (zrm k) 0 0 3 :=
  cwV 3 hts (z_goodV zw_303 zw_305 zsel_W_lengthAlong zw_1 zw_306) rfl rfl rfl (by decide +kernel) hR
theorem zk_W_161 {R : Room} {s : State} {args : Array Value} (hts : ∀ w ∈ zW, w.before args s = true) {k : Nat} (hR : (zrm k).frames + 1 ≤ R.frames ∧ 8 + (3 + 11) + (zrm k).locals ≤ R.locals) : CallW R s args zR_W zR_A 161 zy_A_goesAlong zb_A_goesAlong 3 (some .boolean) zws_A_goesAlong (zrm k) 0 0 2 :=
  cwV 2 hts (z_goodV zw_307 zw_308 zw_309 zw_3 zw_310) rfl rfl rfl (by decide +kernel) hR
theorem zk_W_164 {R : Room} {s : State} {args : Array Value} (hts : ∀ w ∈ zW, w.before args s = true) {k : Nat} (hR : (zrm k).frames + 1 ≤ R.frames ∧ 8 + (3 + 11) + (zrm k).locals ≤ R.locals) : CallW R s args zR_W zR_T 164 zy_T_rowLength zb_T_rowLength 3 (some .int) zws_T_rowLength (zrm k) 0 0 2 :=
  cwV 2 hts (z_goodV zw_311 zw_312 zw_313 zw_2 zw_314) rfl rfl rfl (by decide +kernel) hR
theorem zk_W_158 {R : Room} {s : State} {args : Array Value} (hts : ∀ w ∈ zW, w.before args s = true) {k : Nat} (hR : (zrm k).frames + 1 ≤ R.frames ∧ 8 + (4 + 11) + (zrm k).locals ≤ R.locals) : CallW R s args zR_W zR_T 158 zy_T_rowAt zb_T_rowAt 4 (some .int) zws_T_rowAt (zrm k) 0 0 3 :=
  cwV 3 hts (z_goodV zw_315 zw_316 zw_317 zw_2 zw_318) rfl rfl rfl (by decide +kernel) hR
theorem zk_W_142 {R : Room} {s : State} {args : Array Value} (hts : ∀ w ∈ zW, w.before args s = true) {k : Nat} (hR : (zrm k).frames + 1 ≤ R.frames ∧ 8 + (6 + 11) + (zrm k).locals ≤ R.locals) : CallW R s args zR_W zR_W 142 zy_W_makeOutput zb_W_makeOutput 6 (some .boolean) zws_W_makeOutput (zrm k) 0 0 3 :=
  cwV 3 hts (z_goodV zw_319 zw_321 zsel_W_makeOutput zw_1 zw_322) rfl rfl rfl (by decide +kernel) hR
theorem zk_W_126 {R : Room} {s : State} {args : Array Value} (hts : ∀ w ∈ zW, w.before args s = true) {k : Nat} (hR : (zrm k).frames + 1 ≤ R.frames ∧ 8 + (3 + 11) + (zrm k).locals ≤ R.locals) : CallW R s args zR_W zR_M 126 zy_M_makerOf zb_M_makerOf 3 (some .int) zws_M_makerOf (zrm k) 0 0 2 :=
  cwV 2 hts (z_goodV zw_323 zw_206 zw_207 zw_4 zw_208) rfl rfl rfl (by decide +kernel) hR
theorem zk_W_179 {R : Room} {s : State} {args : Array Value} (hts : ∀ w ∈ zW, w.before args s = true) {k : Nat} (hR : (zrm k).frames + 1 ≤ R.frames ∧ 8 + (5 + 11) + (zrm k).locals ≤ R.locals) : CallW R s args zR_W zR_M 179 zy_M_keepMaker zb_M_keepMaker 5 none zws_M_keepMaker (zrm k) 0 0 4 :=
  cwV 4 hts (z_goodV zw_324 zw_325 zw_326 zw_4 zw_327) rfl rfl rfl (by decide +kernel) hR
theorem zk_W_183 {R : Room} {s : State} {args : Array Value} (hts : ∀ w ∈ zW, w.before args s = true) {k : Nat} (hR : (zrm k).frames + 1 ≤ R.frames ∧ 8 + (3 + 11) + (zrm k).locals ≤ R.locals) : CallW R s args zR_W zR_M 183 zy_M_makerSettingOf zb_M_makerSettingOf 3 (some .int) zws_M_makerSettingOf (zrm k) 0 0 2 :=
  cwV 2 hts (z_goodV zw_328 zw_329 zw_330 zw_4 zw_331) rfl rfl rfl (by decide +kernel) hR
theorem zk_W_145 {R : Room} {s : State} {args : Array Value} (hts : ∀ w ∈ zW, w.before args s = true) {k : Nat} (hR : (zrm k).frames + 1 ≤ R.frames ∧ 8 + (9 + 11) + (zrm k).locals ≤ R.locals) : CallW R s args zR_W zR_W 145 zy_W_joined zb_W_joined 9 (some .long) zws_W_joined (zrm k) 0 0 3 :=
  cwV 3 hts (z_goodV zw_332 zw_334 zsel_W_joined zw_1 zw_335) rfl rfl rfl (by decide +kernel) hR
theorem zk_W_186 {R : Room} {s : State} {args : Array Value} (hts : ∀ w ∈ zW, w.before args s = true) {k : Nat} (hR : (zrm k).frames + 1 ≤ R.frames ∧ 8 + (2 + 11) + (zrm k).locals ≤ R.locals) : CallW R s args zR_W zR_A 186 zy_A_kindOf zb_A_kindOf 2 (some .int) zws_A_kindOf (zrm k) 0 0 1 :=
  cwV 1 hts (z_goodV zw_336 zw_337 zw_338 zw_3 zw_339) rfl rfl rfl (by decide +kernel) hR
theorem zk_W_189 {R : Room} {s : State} {args : Array Value} (hts : ∀ w ∈ zW, w.before args s = true) {k : Nat} (hR : (zrm k).frames + 1 ≤ R.frames ∧ 8 + (2 + 11) + (zrm k).locals ≤ R.locals) : CallW R s args zR_W zR_T 189 zy_T_valueOf zb_T_valueOf 2 (some .long) zws_T_valueOf (zrm k) 0 0 1 :=
  cwV 1 hts (z_goodV zw_340 zw_341 zw_342 zw_2 zw_343) rfl rfl rfl (by decide +kernel) hR
theorem zk_W_193 {R : Room} {s : State} {args : Array Value} (hts : ∀ w ∈ zW, w.before args s = true) {k : Nat} (hR : (zrm k).frames + 1 ≤ R.frames ∧ 8 + (13 + 11) + (zrm k).locals ≤ R.locals) : CallW R s args zR_W zR_W 193 zy_W_joinBelow zb_W_joinBelow 13 (some .long) zws_W_joinBelow (zrm k) 0 0 4 :=
  cwV 4 hts (z_goodV zw_344 zw_346 zsel_W_joinBelow zw_1 zw_347) rfl rfl rfl (by decide +kernel) hR
theorem zk_W_200 {R : Room} {s : State} {args : Array Value} (hts : ∀ w ∈ zW, w.before args s = true) {k : Nat} (hR : (zrm k).frames + 1 ≤ R.frames ∧ 8 + (9 + 11) + (zrm k).locals ≤ R.locals) : CallW R s args zR_W zR_W 200 zy_W_joinPart zb_W_joinPart 9 (some .long) zws_W_joinPart (zrm k) 0 0 5 :=
  cwV 5 hts (z_goodV zw_348 zw_350 zsel_W_joinPart zw_1 zw_351) rfl rfl rfl (by decide +kernel) hR
theorem zk_W_114 {R : Room} {s : State} {args : Array Value} (hts : ∀ w ∈ zW, w.before args s = true) {k : Nat} (hR : (zrm k).frames + 1 ≤ R.frames ∧ 8 + (4 + 11) + (zrm k).locals ≤ R.locals) : CallW R s args zR_W zR_M 114 zy_M_resultOf zb_M_resultOf 4 (some .long) zws_M_resultOf (zrm k) 0 0 3 :=
  cwV 3 hts (z_goodV zw_352 zw_353 zw_354 zw_4 zw_355) rfl rfl rfl (by decide +kernel) hR
theorem zk_W_204 {R : Room} {s : State} {args : Array Value} (hts : ∀ w ∈ zW, w.before args s = true) {k : Nat} (hR : (zrm k).frames + 1 ≤ R.frames ∧ 8 + (4 + 11) + (zrm k).locals ≤ R.locals) : CallB R s args zR_W 204 zy_Jm_max zb_Jm_max 4 (some .long) zws_Jm_max (zrm k) 0 0 2 ∧ (Cond.static zy_Jm_max).before args s = true :=
  va_cwS 2 hts (z_goodS zw_356 zw_357 zw_8 zw_358) rfl rfl rfl (by decide +kernel) hR
theorem zk_W_197 {R : Room} {s : State} {args : Array Value} (hts : ∀ w ∈ zW, w.before args s = true) {k : Nat} (hR : (zrm k).frames + 1 ≤ R.frames ∧ 8 + (10 + 11) + (zrm k).locals ≤ R.locals) : CallW R s args zR_W zR_W 197 zy_W_joinNeeds zb_W_joinNeeds 10 (some .long) zws_W_joinNeeds (zrm k) 0 0 4 :=
  cwV 4 hts (z_goodV zw_360 zw_362 zsel_W_joinNeeds zw_1 zw_363) rfl rfl rfl (by decide +kernel) hR
theorem zk_W_148 {R : Room} {s : State} {args : Array Value} (hts : ∀ w ∈ zW, w.before args s = true) {k : Nat} (hR : (zrm k).frames + 1 ≤ R.frames ∧ 8 + (7 + 11) + (zrm k).locals ≤ R.locals) : CallW R s args zR_W zR_M 148 zy_M_keepDone zb_M_keepDone 7 none zws_M_keepDone (zrm k) 0 0 4 :=
  cwV 4 hts (z_goodV zw_364 zw_365 zw_366 zw_4 zw_367) rfl rfl rfl (by decide +kernel) hR
theorem zk_L_62 {R : Room} {s : State} {args : Array Value} (hts : ∀ w ∈ zW, w.before args s = true) {k : Nat} (hR : (zrm k).frames + 1 ≤ R.frames ∧ 8 + (2 + 11) + (zrm k).locals ≤ R.locals) : CallW R s args zR_L zR_W 62 zy_W_clash zb_W_clash 2 (some .int) zws_W_clash (zrm k) 0 0 1 :=
  cwV 1 hts (z_goodV zw_368 zw_369 zw_370 zw_1 zw_371) rfl rfl rfl (by decide +kernel) hR
theorem zk_L_66 {R : Room} {s : State} {args : Array Value} (hts : ∀ w ∈ zW, w.before args s = true) {k : Nat} (hR : (zrm k).frames + 1 ≤ R.frames ∧ 8 + (4 + 11) + (zrm k).locals ≤ R.locals) : CallW R s args zR_L zR_W 66 zy_W_state zb_W_state 4 (some .int) zws_W_state (zrm k) 0 0 3 :=
  cwV 3 hts (z_goodV zw_372 zw_373 zw_374 zw_1 zw_375) rfl rfl rfl (by decide +kernel) hR
theorem zk_L_80 {R : Room} {s : State} {args : Array Value} (hts : ∀ w ∈ zW, w.before args s = true) {k : Nat} (hR : (zrm k).frames + 1 ≤ R.frames ∧ 8 + (3 + 11) + (zrm k).locals ≤ R.locals) : CallW R s args zR_L zR_W 80 zy_W_worked zb_W_worked 3 (some .int) zws_W_worked (zrm k) 0 0 2 :=
  cwV 2 hts (z_goodV zw_376 zw_377 zw_378 zw_1 zw_379) rfl rfl rfl (by decide +kernel) hR
theorem zk_W_118 {R : Room} {s : State} {args : Array Value} (hts : ∀ w ∈ zW, w.before args s = true) {k : Nat} (hR : (zrm k).frames + 1 ≤ R.frames ∧ 8 + (3 + 11) + (zrm k).locals ≤ R.locals) : CallW R s args zR_W zR_M 118 zy_M_timesDone zb_M_timesDone 3 (some .int) zws_M_timesDone (zrm k) 0 0 2 :=
  cwV 2 hts (z_goodV zw_380 zw_381 zw_382 zw_4 zw_383) rfl rfl rfl (by decide +kernel) hR
theorem zk_L_84 {R : Room} {s : State} {args : Array Value} (hts : ∀ w ∈ zW, w.before args s = true) {k : Nat} (hR : (zrm k).frames + 1 ≤ R.frames ∧ 8 + (1 + 11) + (zrm k).locals ≤ R.locals) : CallW R s args zR_L zR_W 84 zy_W_done zb_W_done 1 (some .int) zws_W_done (zrm k) 0 0 0 :=
  cwV 0 hts (z_goodV zw_384 zw_385 zw_386 zw_1 zw_387) rfl rfl rfl (by decide +kernel) hR
theorem zk_W_122 {R : Room} {s : State} {args : Array Value} (hts : ∀ w ∈ zW, w.before args s = true) {k : Nat} (hR : (zrm k).frames + 1 ≤ R.frames ∧ 8 + (1 + 11) + (zrm k).locals ≤ R.locals) : CallW R s args zR_W zR_M 122 zy_M_doneCount zb_M_doneCount 1 (some .int) zws_M_doneCount (zrm k) 0 0 0 :=
  cwV 0 hts (z_goodV zw_388 zw_389 zw_390 zw_4 zw_391) rfl rfl rfl (by decide +kernel) hR
theorem zk_L_88 {R : Room} {s : State} {args : Array Value} (hts : ∀ w ∈ zW, w.before args s = true) {k : Nat} (hR : (zrm k).frames + 1 ≤ R.frames ∧ 8 + (3 + 11) + (zrm k).locals ≤ R.locals) : CallW R s args zR_L zR_W 88 zy_W_maker zb_W_maker 3 (some .int) zws_W_maker (zrm k) 0 0 2 :=
  cwV 2 hts (z_goodV zw_392 zw_393 zw_394 zw_1 zw_395) rfl rfl rfl (by decide +kernel) hR
theorem zk_L_7 {R : Room} {s : State} {args : Array Value} (hts : ∀ w ∈ zW, w.before args s = true) {k : Nat} (hR : (zrm k).frames + 1 ≤ R.frames ∧ 8 + (5 + 11) + (zrm k).locals ≤ R.locals) : CallW R s args zR_L zR_W 7 zy_W_result zb_W_result 5 (some .long) zws_W_result (zrm k) 0 0 3 :=
  cwV 3 hts (z_goodV zw_401 zw_402 zw_403 zw_1 zw_404) rfl rfl rfl (by decide +kernel) hR
theorem zk_L_76 {R : Room} {s : State} {args : Array Value} (hts : ∀ w ∈ zW, w.before args s = true) {k : Nat} (hR : (zrm k).frames + 1 ≤ R.frames ∧ 8 + (1 + 11) + (zrm k).locals ≤ R.locals) : CallW R s args zR_L zR_R 76 zy_R_thrown zb_R_thrown 1 (some .int) zws_R_thrown (zrm k) 0 0 0 :=
  cwV 0 hts (z_goodV zw_574 zw_575 zw_576 zw_6 zw_577) rfl rfl rfl (by decide +kernel) hR
theorem zk_L_27 {R : Room} {s : State} {args : Array Value} (hts : ∀ w ∈ zW, w.before args s = true) {k : Nat} (hR : (zrm k).frames + 1 ≤ R.frames ∧ 8 + (4 + 11) + (zrm k).locals ≤ R.locals) : CallW R s args zR_L zR_R 27 zy_R_target zb_R_target 4 (some .int) zws_R_target (zrm k) 0 0 2 :=
  cwV 2 hts (z_goodV zw_578 zw_579 zw_580 zw_6 zw_581) rfl rfl rfl (by decide +kernel) hR
theorem zk_L_32 {R : Room} {s : State} {args : Array Value} (hts : ∀ w ∈ zW, w.before args s = true) {k : Nat} (hR : (zrm k).frames + 1 ≤ R.frames ∧ 8 + (2 + 11) + (zrm k).locals ≤ R.locals) : CallW R s args zR_L zR_R 32 zy_R_alias zb_R_alias 2 (some .int) zws_R_alias (zrm k) 0 0 1 :=
  cwV 1 hts (z_goodV zw_582 zw_583 zw_584 zw_6 zw_585) rfl rfl rfl (by decide +kernel) hR
theorem zk_R_82 {R : Room} {s : State} {args : Array Value} (hts : ∀ w ∈ zW, w.before args s = true) {k : Nat} (hR : (zrm k).frames + 1 ≤ R.frames ∧ 8 + (2 + 11) + (zrm k).locals ≤ R.locals) : CallW R s args zR_R zR_R 82 zy_R_isTarget zb_R_isTarget 2 (some .boolean) zws_R_isTarget (zrm k) 0 0 1 :=
  cwV 1 hts (z_goodV zw_586 zw_588 zsel_R_isTarget zw_6 zw_589) rfl rfl rfl (by decide +kernel) hR
theorem zk_L_36 {R : Room} {s : State} {args : Array Value} (hts : ∀ w ∈ zW, w.before args s = true) {k : Nat} (hR : (zrm k).frames + 1 ≤ R.frames ∧ 8 + (2 + 11) + (zrm k).locals ≤ R.locals) : CallW R s args zR_L zR_R 36 zy_R_stands zb_R_stands 2 (some .int) zws_R_stands (zrm k) 0 0 1 :=
  cwV 1 hts (z_goodV zw_590 zw_591 zw_592 zw_6 zw_593) rfl rfl rfl (by decide +kernel) hR
theorem zk_L_41 {R : Room} {s : State} {args : Array Value} (hts : ∀ w ∈ zW, w.before args s = true) {k : Nat} (hR : (zrm k).frames + 1 ≤ R.frames ∧ 8 + (4 + 11) + (zrm k).locals ≤ R.locals) : CallW R s args zR_L zR_R 41 zy_R_add zb_R_add 4 (some .boolean) zws_R_add (zrm k) 0 0 3 :=
  cwV 3 hts (z_goodV zw_594 zw_595 zw_596 zw_6 zw_597) rfl rfl rfl (by decide +kernel) hR
theorem zk_R_93 {R : Room} {s : State} {args : Array Value} (hts : ∀ w ∈ zW, w.before args s = true) {k : Nat} (hR : (zrm k).frames + 1 ≤ R.frames ∧ 8 + (2 + 11) + (zrm k).locals ≤ R.locals) : CallW R s args zR_R zR_R 93 zy_R_isOwn zb_R_isOwn 2 (some .boolean) zws_R_isOwn (zrm k) 0 0 1 :=
  cwV 1 hts (z_goodV zw_598 zw_600 zsel_R_isOwn zw_6 zw_601) rfl rfl rfl (by decide +kernel) hR
theorem zk_R_96 {R : Room} {s : State} {args : Array Value} (hts : ∀ w ∈ zW, w.before args s = true) {k : Nat} (hR : (zrm k).frames + 1 ≤ R.frames ∧ 8 + (3 + 11) + (zrm k).locals ≤ R.locals) : CallW R s args zR_R zR_R 96 zy_R_forgetFrom zb_R_forgetFrom 3 none zws_R_forgetFrom (zrm k) 0 0 1 :=
  cwV 1 hts (z_goodV zw_602 zw_604 zsel_R_forgetFrom zw_6 zw_605) rfl rfl rfl (by decide +kernel) hR
theorem zk_R_86 {R : Room} {s : State} {args : Array Value} (hts : ∀ w ∈ zW, w.before args s = true) {k : Nat} (hR : (zrm k).frames + 1 ≤ R.frames ∧ 8 + (5 + 11) + (zrm k).locals ≤ R.locals) : CallW R s args zR_R zR_R 86 zy_R_hasTouched zb_R_hasTouched 5 (some .boolean) zws_R_hasTouched (zrm k) 0 0 1 :=
  cwV 1 hts (z_goodV zw_606 zw_608 zsel_R_hasTouched zw_6 zw_609) rfl rfl rfl (by decide +kernel) hR
theorem zk_R_89 {R : Room} {s : State} {args : Array Value} (hts : ∀ w ∈ zW, w.before args s = true) {k : Nat} (hR : (zrm k).frames + 1 ≤ R.frames ∧ 8 + (3 + 11) + (zrm k).locals ≤ R.locals) : CallW R s args zR_R zR_R 89 zy_R_forgetTarget zb_R_forgetTarget 3 none zws_R_forgetTarget (zrm k) 0 0 1 :=
  cwV 1 hts (z_goodV zw_610 zw_612 zsel_R_forgetTarget zw_6 zw_613) rfl rfl rfl (by decide +kernel) hR
theorem zk_L_46 {R : Room} {s : State} {args : Array Value} (hts : ∀ w ∈ zW, w.before args s = true) {k : Nat} (hR : (zrm k).frames + 1 ≤ R.frames ∧ 8 + (6 + 11) + (zrm k).locals ≤ R.locals) : CallW R s args zR_L zR_R 46 zy_R_change zb_R_change 6 (some .boolean) zws_R_change (zrm k) 0 0 3 :=
  cwV 3 hts (z_goodV zw_614 zw_615 zw_616 zw_6 zw_617) rfl rfl rfl (by decide +kernel) hR
theorem zk_L_51 {R : Room} {s : State} {args : Array Value} (hts : ∀ w ∈ zW, w.before args s = true) {k : Nat} (hR : (zrm k).frames + 1 ≤ R.frames ∧ 8 + (6 + 11) + (zrm k).locals ≤ R.locals) : CallW R s args zR_L zR_R 51 zy_R_aspect zb_R_aspect 6 (some .int) zws_R_aspect (zrm k) 0 0 5 :=
  cwV 5 hts (z_goodV zw_618 zw_619 zw_620 zw_6 zw_621) rfl rfl rfl (by decide +kernel) hR
theorem zk_L_56 {R : Room} {s : State} {args : Array Value} (hts : ∀ w ∈ zW, w.before args s = true) {k : Nat} (hR : (zrm k).frames + 1 ≤ R.frames ∧ 8 + (5 + 11) + (zrm k).locals ≤ R.locals) : CallW R s args zR_L zR_R 56 zy_R_need zb_R_need 5 (some .int) zws_R_need (zrm k) 0 0 2 :=
  cwV 2 hts (z_goodV zw_622 zw_623 zw_624 zw_6 zw_625) rfl rfl rfl (by decide +kernel) hR
theorem zk_R_107 {R : Room} {s : State} {args : Array Value} (hts : ∀ w ∈ zW, w.before args s = true) {k : Nat} (hR : (zrm k).frames + 1 ≤ R.frames ∧ 8 + (2 + 11) + (zrm k).locals ≤ R.locals) : CallW R s args zR_R zR_R 107 zy_R_isAspect zb_R_isAspect 2 (some .boolean) zws_R_isAspect (zrm k) 0 0 1 :=
  cwV 1 hts (z_goodV zw_626 zw_628 zsel_R_isAspect zw_6 zw_629) rfl rfl rfl (by decide +kernel) hR
theorem zk_R_99 {R : Room} {s : State} {args : Array Value} (hts : ∀ w ∈ zW, w.before args s = true) {k : Nat} (hR : (zrm k).frames + 1 ≤ R.frames ∧ 8 + (5 + 11) + (zrm k).locals ≤ R.locals) : CallW R s args zR_R zR_R 99 zy_R_hasNeed zb_R_hasNeed 5 (some .boolean) zws_R_hasNeed (zrm k) 0 0 2 :=
  cwV 2 hts (z_goodV zw_630 zw_632 zsel_R_hasNeed zw_6 zw_633) rfl rfl rfl (by decide +kernel) hR
theorem zk_R_110 {R : Room} {s : State} {args : Array Value} (hts : ∀ w ∈ zW, w.before args s = true) {k : Nat} (hR : (zrm k).frames + 1 ≤ R.frames ∧ 8 + (6 + 11) + (zrm k).locals ≤ R.locals) : CallW R s args zR_R zR_R 110 zy_R_neederBits zb_R_neederBits 6 (some .int) zws_R_neederBits (zrm k) 0 0 1 :=
  cwV 1 hts (z_goodV zw_634 zw_636 zsel_R_neederBits zw_6 zw_637) rfl rfl rfl (by decide +kernel) hR
theorem zk_R_114 {R : Room} {s : State} {args : Array Value} (hts : ∀ w ∈ zW, w.before args s = true) {k : Nat} (hR : (zrm k).frames + 1 ≤ R.frames ∧ 8 + (5 + 11) + (zrm k).locals ≤ R.locals) : CallW R s args zR_R zR_R 114 zy_R_forgetAspect zb_R_forgetAspect 5 none zws_R_forgetAspect (zrm k) 0 0 1 :=
  cwV 1 hts (z_goodV zw_638 zw_640 zsel_R_forgetAspect zw_6 zw_641) rfl rfl rfl (by decide +kernel) hR
theorem zk_R_103 {R : Room} {s : State} {args : Array Value} (hts : ∀ w ∈ zW, w.before args s = true) {k : Nat} (hR : (zrm k).frames + 1 ≤ R.frames ∧ 8 + (3 + 11) + (zrm k).locals ≤ R.locals) : CallB R s args zR_R 103 zy_R_placeOf zb_R_placeOf 3 (some .int) zws_R_placeOf (zrm k) 0 0 3 ∧ (Cond.static zy_R_placeOf).before args s = true :=
  va_cwS 3 hts (z_goodS zw_642 zw_643 zw_6 zw_644) rfl rfl rfl (by decide +kernel) hR
theorem zk_L_61 {R : Room} {s : State} {args : Array Value} (hts : ∀ w ∈ zW, w.before args s = true) {k : Nat} (hR : (zrm k).frames + 1 ≤ R.frames ∧ 8 + (5 + 11) + (zrm k).locals ≤ R.locals) : CallW R s args zR_L zR_R 61 zy_R_apply zb_R_apply 5 (some .int) zws_R_apply (zrm k) 0 0 3 :=
  cwV 3 hts (z_goodV zw_645 zw_646 zw_647 zw_6 zw_648) rfl rfl rfl (by decide +kernel) hR
theorem zk_R_153 {R : Room} {s : State} {args : Array Value} (hts : ∀ w ∈ zW, w.before args s = true) {k : Nat} (hR : (zrm k).frames + 1 ≤ R.frames ∧ 8 + (1 + 11) + (zrm k).locals ≤ R.locals) : CallB R s args zR_R 153 zy_R_isSetting zb_R_isSetting 1 (some .boolean) zws_R_isSetting (zrm k) 0 0 1 ∧ (Cond.static zy_R_isSetting).before args s = true :=
  va_cwS 1 hts (z_goodS zw_649 zw_650 zw_6 zw_651) rfl rfl rfl (by decide +kernel) hR
theorem zk_R_123 {R : Room} {s : State} {args : Array Value} (hts : ∀ w ∈ zW, w.before args s = true) {k : Nat} (hR : (zrm k).frames + 1 ≤ R.frames ∧ 8 + (3 + 11) + (zrm k).locals ≤ R.locals) : CallW R s args zR_R zR_R 123 zy_R_push zb_R_push 3 none zws_R_push (zrm k) 0 0 2 :=
  cwV 2 hts (z_goodV zw_652 zw_654 zsel_R_push zw_6 zw_655) rfl rfl rfl (by decide +kernel) hR
theorem zk_R_156 {R : Room} {s : State} {args : Array Value} (hts : ∀ w ∈ zW, w.before args s = true) {k : Nat} (hR : (zrm k).frames + 1 ≤ R.frames ∧ 8 + (4 + 11) + (zrm k).locals ≤ R.locals) : CallW R s args zR_R zR_R 156 zy_R_goOn zb_R_goOn 4 none zws_R_goOn (zrm k) 0 0 0 :=
  cwV 0 hts (z_goodV zw_656 zw_658 zsel_R_goOn zw_6 zw_659) rfl rfl rfl (by decide +kernel) hR
theorem zk_R_133 {R : Room} {s : State} {args : Array Value} (hts : ∀ w ∈ zW, w.before args s = true) {k : Nat} (hR : (zrm k).frames + 1 ≤ R.frames ∧ 8 + (5 + 11) + (zrm k).locals ≤ R.locals) : CallW R s args zR_R zR_R 133 zy_R_waitsForNeed zb_R_waitsForNeed 5 (some .boolean) zws_R_waitsForNeed (zrm k) 0 0 2 :=
  cwV 2 hts (z_goodV zw_660 zw_662 zsel_R_waitsForNeed zw_6 zw_663) rfl rfl rfl (by decide +kernel) hR
theorem zk_R_136 {R : Room} {s : State} {args : Array Value} (hts : ∀ w ∈ zW, w.before args s = true) {k : Nat} (hR : (zrm k).frames + 1 ≤ R.frames ∧ 8 + (6 + 11) + (zrm k).locals ≤ R.locals) : CallW R s args zR_R zR_R 136 zy_R_hasAllWanted zb_R_hasAllWanted 6 (some .boolean) zws_R_hasAllWanted (zrm k) 0 0 2 :=
  cwV 2 hts (z_goodV zw_664 zw_666 zsel_R_hasAllWanted zw_6 zw_667) rfl rfl rfl (by decide +kernel) hR
theorem zk_R_139 {R : Room} {s : State} {args : Array Value} (hts : ∀ w ∈ zW, w.before args s = true) {k : Nat} (hR : (zrm k).frames + 1 ≤ R.frames ∧ 8 + (6 + 11) + (zrm k).locals ≤ R.locals) : CallW R s args zR_R zR_R 139 zy_R_waitsForTarget zb_R_waitsForTarget 6 (some .boolean) zws_R_waitsForTarget (zrm k) 0 0 2 :=
  cwV 2 hts (z_goodV zw_668 zw_670 zsel_R_waitsForTarget zw_6 zw_671) rfl rfl rfl (by decide +kernel) hR
theorem zk_R_142 {R : Room} {s : State} {args : Array Value} (hts : ∀ w ∈ zW, w.before args s = true) {k : Nat} (hR : (zrm k).frames + 1 ≤ R.frames ∧ 8 + (5 + 11) + (zrm k).locals ≤ R.locals) : CallW R s args zR_R zR_R 142 zy_R_makes zb_R_makes 5 (some .boolean) zws_R_makes (zrm k) 0 0 2 :=
  cwV 2 hts (z_goodV zw_672 zw_674 zsel_R_makes zw_6 zw_675) rfl rfl rfl (by decide +kernel) hR
theorem zk_R_149 {R : Room} {s : State} {args : Array Value} (hts : ∀ w ∈ zW, w.before args s = true) {k : Nat} (hR : (zrm k).frames + 1 ≤ R.frames ∧ 8 + (8 + 11) + (zrm k).locals ≤ R.locals) : CallW R s args zR_R zR_R 149 zy_R_resultOf zb_R_resultOf 8 (some .long) zws_R_resultOf (zrm k) 0 0 2 :=
  cwV 2 hts (z_goodV zw_676 zw_678 zsel_R_resultOf zw_6 zw_679) rfl rfl rfl (by decide +kernel) hR
theorem zk_R_129 {R : Room} {s : State} {args : Array Value} (hts : ∀ w ∈ zW, w.before args s = true) {k : Nat} (hR : (zrm k).frames + 1 ≤ R.frames ∧ 8 + (5 + 11) + (zrm k).locals ≤ R.locals) : CallB R s args zR_R 129 zy_R_with zb_R_with 5 (some .long) zws_R_with (zrm k) 0 0 3 ∧ (Cond.static zy_R_with).before args s = true :=
  va_cwS 3 hts (z_goodS zw_680 zw_681 zw_6 zw_682) rfl rfl rfl (by decide +kernel) hR
theorem zk_L_65 {R : Room} {s : State} {args : Array Value} (hts : ∀ w ∈ zW, w.before args s = true) {k : Nat} (hR : (zrm k).frames + 1 ≤ R.frames ∧ 8 + (2 + 11) + (zrm k).locals ≤ R.locals) : CallW R s args zR_L zR_R 65 zy_R_clash zb_R_clash 2 (some .int) zws_R_clash (zrm k) 0 0 1 :=
  cwV 1 hts (z_goodV zw_684 zw_685 zw_686 zw_6 zw_687) rfl rfl rfl (by decide +kernel) hR
theorem zk_L_69 {R : Room} {s : State} {args : Array Value} (hts : ∀ w ∈ zW, w.before args s = true) {k : Nat} (hR : (zrm k).frames + 1 ≤ R.frames ∧ 8 + (4 + 11) + (zrm k).locals ≤ R.locals) : CallW R s args zR_L zR_R 69 zy_R_state zb_R_state 4 (some .int) zws_R_state (zrm k) 0 0 3 :=
  cwV 3 hts (z_goodV zw_688 zw_689 zw_690 zw_6 zw_691) rfl rfl rfl (by decide +kernel) hR
theorem zk_L_75 {R : Room} {s : State} {args : Array Value} (hts : ∀ w ∈ zW, w.before args s = true) {k : Nat} (hR : (zrm k).frames + 1 ≤ R.frames ∧ 8 + (4 + 11) + (zrm k).locals ≤ R.locals) : CallW R s args zR_L zR_R 75 zy_R_result zb_R_result 4 (some .long) zws_R_result (zrm k) 0 0 3 :=
  cwV 3 hts (z_goodV zw_692 zw_693 zw_694 zw_6 zw_695) rfl rfl rfl (by decide +kernel) hR
theorem zk_L_83 {R : Room} {s : State} {args : Array Value} (hts : ∀ w ∈ zW, w.before args s = true) {k : Nat} (hR : (zrm k).frames + 1 ≤ R.frames ∧ 8 + (3 + 11) + (zrm k).locals ≤ R.locals) : CallW R s args zR_L zR_R 83 zy_R_worked zb_R_worked 3 (some .int) zws_R_worked (zrm k) 0 0 2 :=
  cwV 2 hts (z_goodV zw_696 zw_697 zw_698 zw_6 zw_699) rfl rfl rfl (by decide +kernel) hR
theorem zk_L_87 {R : Room} {s : State} {args : Array Value} (hts : ∀ w ∈ zW, w.before args s = true) {k : Nat} (hR : (zrm k).frames + 1 ≤ R.frames ∧ 8 + (3 + 11) + (zrm k).locals ≤ R.locals) : CallW R s args zR_L zR_R 87 zy_R_done zb_R_done 3 (some .int) zws_R_done (zrm k) 0 0 0 :=
  cwV 0 hts (z_goodV zw_700 zw_701 zw_702 zw_6 zw_703) rfl rfl rfl (by decide +kernel) hR
theorem zk_L_91 {R : Room} {s : State} {args : Array Value} (hts : ∀ w ∈ zW, w.before args s = true) {k : Nat} (hR : (zrm k).frames + 1 ≤ R.frames ∧ 8 + (4 + 11) + (zrm k).locals ≤ R.locals) : CallW R s args zR_L zR_R 91 zy_R_maker zb_R_maker 4 (some .int) zws_R_maker (zrm k) 0 0 2 :=
  cwV 2 hts (z_goodV zw_704 zw_705 zw_706 zw_6 zw_707) rfl rfl rfl (by decide +kernel) hR
