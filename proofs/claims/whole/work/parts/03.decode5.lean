theorem zd_R_result_29 : decode zb_R_result 29 = .ok (.getfield 47, 3) := by decide +kernel
theorem zd_R_result_32 : decode zb_R_result 32 = .ok (.aload_n 0, 1) := by decide +kernel
theorem zd_R_result_33 : decode zb_R_result 33 = .ok (.getfield 7, 3) := by decide +kernel
theorem zd_R_result_36 : decode zb_R_result 36 = .ok (.iload_n 1, 1) := by decide +kernel
theorem zd_R_result_37 : decode zb_R_result 37 = .ok (.iaload, 1) := by decide +kernel
theorem zd_R_result_38 : decode zb_R_result 38 = .ok (.iload_n 2, 1) := by decide +kernel
theorem zd_R_result_39 : decode zb_R_result 39 = .ok (.iload_n 3, 1) := by decide +kernel
theorem zd_R_result_40 : decode zb_R_result 40 = .ok (.invokestatic 103, 3) := by decide +kernel
theorem zd_R_result_43 : decode zb_R_result 43 = .ok (.iaload, 1) := by decide +kernel
theorem zd_R_result_44 : decode zb_R_result 44 = .ok (.iconst 2, 1) := by decide +kernel
theorem zd_R_result_45 : decode zb_R_result 45 = .ok (.if_icmp .eq 7, 3) := by decide +kernel
theorem zd_R_result_48 : decode zb_R_result 48 = .ok (.iconst 2, 1) := by decide +kernel
theorem zd_R_result_49 : decode zb_R_result 49 = .ok (.goto 4, 3) := by decide +kernel
theorem zd_R_result_52 : decode zb_R_result 52 = .ok (.iconst 0, 1) := by decide +kernel
theorem zd_R_result_53 : decode zb_R_result 53 = .ok (.putfield 72, 3) := by decide +kernel
theorem zd_R_result_56 : decode zb_R_result 56 = .ok (.aload_n 0, 1) := by decide +kernel
theorem zd_R_result_57 : decode zb_R_result 57 = .ok (.getfield 72, 3) := by decide +kernel
theorem zd_R_result_60 : decode zb_R_result 60 = .ok (.ifCond .le 7, 3) := by decide +kernel
theorem zd_R_result_63 : decode zb_R_result 63 = .ok (.lconst 0, 1) := by decide +kernel
theorem zd_R_result_64 : decode zb_R_result 64 = .ok (.goto 19, 3) := by decide +kernel
theorem zd_R_result_67 : decode zb_R_result 67 = .ok (.aload_n 0, 1) := by decide +kernel
theorem zd_R_result_68 : decode zb_R_result 68 = .ok (.getfield 50, 3) := by decide +kernel
theorem zd_R_result_71 : decode zb_R_result 71 = .ok (.aload_n 0, 1) := by decide +kernel
theorem zd_R_result_72 : decode zb_R_result 72 = .ok (.getfield 7, 3) := by decide +kernel
theorem zd_R_result_75 : decode zb_R_result 75 = .ok (.iload_n 1, 1) := by decide +kernel
theorem zd_R_result_76 : decode zb_R_result 76 = .ok (.iaload, 1) := by decide +kernel
theorem zd_R_result_77 : decode zb_R_result 77 = .ok (.iload_n 2, 1) := by decide +kernel
theorem zd_R_result_78 : decode zb_R_result 78 = .ok (.iload_n 3, 1) := by decide +kernel
theorem zd_R_result_79 : decode zb_R_result 79 = .ok (.invokestatic 103, 3) := by decide +kernel
theorem zd_R_result_82 : decode zb_R_result 82 = .ok (.laload, 1) := by decide +kernel
theorem zd_R_result_83 : decode zb_R_result 83 = .ok (.lreturn, 1) := by decide +kernel
theorem zd_R_worked_0 : decode zb_R_worked 0 = .ok (.aload_n 0, 1) := by decide +kernel
theorem zd_R_worked_1 : decode zb_R_worked 1 = .ok (.iconst 0, 1) := by decide +kernel
theorem zd_R_worked_2 : decode zb_R_worked 2 = .ok (.putfield 72, 3) := by decide +kernel
theorem zd_R_worked_5 : decode zb_R_worked 5 = .ok (.aload_n 0, 1) := by decide +kernel
theorem zd_R_worked_6 : decode zb_R_worked 6 = .ok (.iload_n 1, 1) := by decide +kernel
theorem zd_R_worked_7 : decode zb_R_worked 7 = .ok (.invokevirtual 82, 3) := by decide +kernel
theorem zd_R_worked_10 : decode zb_R_worked 10 = .ok (.ifCond .eq 30, 3) := by decide +kernel
theorem zd_R_worked_13 : decode zb_R_worked 13 = .ok (.aload_n 0, 1) := by decide +kernel
theorem zd_R_worked_14 : decode zb_R_worked 14 = .ok (.iload_n 2, 1) := by decide +kernel
theorem zd_R_worked_15 : decode zb_R_worked 15 = .ok (.invokevirtual 107, 3) := by decide +kernel
theorem zd_R_worked_18 : decode zb_R_worked 18 = .ok (.ifCond .eq 22, 3) := by decide +kernel
theorem zd_R_worked_21 : decode zb_R_worked 21 = .ok (.aload_n 0, 1) := by decide +kernel
theorem zd_R_worked_22 : decode zb_R_worked 22 = .ok (.getfield 53, 3) := by decide +kernel
theorem zd_R_worked_25 : decode zb_R_worked 25 = .ok (.bipush 8, 2) := by decide +kernel
theorem zd_R_worked_27 : decode zb_R_worked 27 = .ok (.aload_n 0, 1) := by decide +kernel
theorem zd_R_worked_28 : decode zb_R_worked 28 = .ok (.getfield 7, 3) := by decide +kernel
theorem zd_R_worked_31 : decode zb_R_worked 31 = .ok (.iload_n 1, 1) := by decide +kernel
theorem zd_R_worked_32 : decode zb_R_worked 32 = .ok (.iaload, 1) := by decide +kernel
theorem zd_R_worked_33 : decode zb_R_worked 33 = .ok (.imul, 1) := by decide +kernel
theorem zd_R_worked_34 : decode zb_R_worked 34 = .ok (.iload_n 2, 1) := by decide +kernel
theorem zd_R_worked_35 : decode zb_R_worked 35 = .ok (.iadd, 1) := by decide +kernel
theorem zd_R_worked_36 : decode zb_R_worked 36 = .ok (.iaload, 1) := by decide +kernel
theorem zd_R_worked_37 : decode zb_R_worked 37 = .ok (.goto 4, 3) := by decide +kernel
theorem zd_R_worked_40 : decode zb_R_worked 40 = .ok (.iconst 0, 1) := by decide +kernel
theorem zd_R_worked_41 : decode zb_R_worked 41 = .ok (.ireturn, 1) := by decide +kernel
theorem zd_R_done_0 : decode zb_R_done 0 = .ok (.aload_n 0, 1) := by decide +kernel
theorem zd_R_done_1 : decode zb_R_done 1 = .ok (.iconst 0, 1) := by decide +kernel
theorem zd_R_done_2 : decode zb_R_done 2 = .ok (.putfield 72, 3) := by decide +kernel
theorem zd_R_done_5 : decode zb_R_done 5 = .ok (.iconst 0, 1) := by decide +kernel
theorem zd_R_done_6 : decode zb_R_done 6 = .ok (.istore_n 1, 1) := by decide +kernel
theorem zd_R_done_7 : decode zb_R_done 7 = .ok (.iconst 0, 1) := by decide +kernel
theorem zd_R_done_8 : decode zb_R_done 8 = .ok (.istore_n 2, 1) := by decide +kernel
theorem zd_R_done_9 : decode zb_R_done 9 = .ok (.iload_n 2, 1) := by decide +kernel
theorem zd_R_done_10 : decode zb_R_done 10 = .ok (.sipush 2560, 3) := by decide +kernel
theorem zd_R_done_13 : decode zb_R_done 13 = .ok (.if_icmp .ge 27, 3) := by decide +kernel
theorem zd_R_done_16 : decode zb_R_done 16 = .ok (.iload_n 1, 1) := by decide +kernel
theorem zd_R_done_17 : decode zb_R_done 17 = .ok (.aload_n 0, 1) := by decide +kernel
theorem zd_R_done_18 : decode zb_R_done 18 = .ok (.getfield 47, 3) := by decide +kernel
theorem zd_R_done_21 : decode zb_R_done 21 = .ok (.iload_n 2, 1) := by decide +kernel
theorem zd_R_done_22 : decode zb_R_done 22 = .ok (.iaload, 1) := by decide +kernel
theorem zd_R_done_23 : decode zb_R_done 23 = .ok (.iconst 2, 1) := by decide +kernel
theorem zd_R_done_24 : decode zb_R_done 24 = .ok (.if_icmp .ne 7, 3) := by decide +kernel
theorem zd_R_done_27 : decode zb_R_done 27 = .ok (.iconst 1, 1) := by decide +kernel
theorem zd_R_done_28 : decode zb_R_done 28 = .ok (.goto 4, 3) := by decide +kernel
theorem zd_R_done_31 : decode zb_R_done 31 = .ok (.iconst 0, 1) := by decide +kernel
theorem zd_R_done_32 : decode zb_R_done 32 = .ok (.iadd, 1) := by decide +kernel
theorem zd_R_done_33 : decode zb_R_done 33 = .ok (.istore_n 1, 1) := by decide +kernel
theorem zd_R_done_34 : decode zb_R_done 34 = .ok (.iinc 2 1, 3) := by decide +kernel
theorem zd_R_done_37 : decode zb_R_done 37 = .ok (.goto (-28), 3) := by decide +kernel
theorem zd_R_done_40 : decode zb_R_done 40 = .ok (.iload_n 1, 1) := by decide +kernel
theorem zd_R_done_41 : decode zb_R_done 41 = .ok (.ireturn, 1) := by decide +kernel
theorem zd_R_maker_0 : decode zb_R_maker 0 = .ok (.aload_n 0, 1) := by decide +kernel
theorem zd_R_maker_1 : decode zb_R_maker 1 = .ok (.iconst 0, 1) := by decide +kernel
theorem zd_R_maker_2 : decode zb_R_maker 2 = .ok (.putfield 72, 3) := by decide +kernel
theorem zd_R_maker_5 : decode zb_R_maker 5 = .ok (.aload_n 0, 1) := by decide +kernel
theorem zd_R_maker_6 : decode zb_R_maker 6 = .ok (.iload_n 1, 1) := by decide +kernel
theorem zd_R_maker_7 : decode zb_R_maker 7 = .ok (.invokevirtual 82, 3) := by decide +kernel
theorem zd_R_maker_10 : decode zb_R_maker 10 = .ok (.ifCond .eq 13, 3) := by decide +kernel
theorem zd_R_maker_13 : decode zb_R_maker 13 = .ok (.iload_n 2, 1) := by decide +kernel
theorem zd_R_maker_14 : decode zb_R_maker 14 = .ok (.ifCond .lt 9, 3) := by decide +kernel
theorem zd_R_maker_17 : decode zb_R_maker 17 = .ok (.iload_n 2, 1) := by decide +kernel
theorem zd_R_maker_18 : decode zb_R_maker 18 = .ok (.bipush 10, 2) := by decide +kernel
theorem zd_R_maker_20 : decode zb_R_maker 20 = .ok (.if_icmp .lt 5, 3) := by decide +kernel
theorem zd_R_maker_23 : decode zb_R_maker 23 = .ok (.iconst (-1), 1) := by decide +kernel
theorem zd_R_maker_24 : decode zb_R_maker 24 = .ok (.ireturn, 1) := by decide +kernel
theorem zd_R_maker_25 : decode zb_R_maker 25 = .ok (.aload_n 0, 1) := by decide +kernel
theorem zd_R_maker_26 : decode zb_R_maker 26 = .ok (.getfield 56, 3) := by decide +kernel
theorem zd_R_maker_29 : decode zb_R_maker 29 = .ok (.bipush 10, 2) := by decide +kernel
theorem zd_R_maker_31 : decode zb_R_maker 31 = .ok (.aload_n 0, 1) := by decide +kernel
theorem zd_R_maker_32 : decode zb_R_maker 32 = .ok (.getfield 7, 3) := by decide +kernel
theorem zd_R_maker_35 : decode zb_R_maker 35 = .ok (.iload_n 1, 1) := by decide +kernel
theorem zd_R_maker_36 : decode zb_R_maker 36 = .ok (.iaload, 1) := by decide +kernel
theorem zd_R_maker_37 : decode zb_R_maker 37 = .ok (.imul, 1) := by decide +kernel
theorem zd_R_maker_38 : decode zb_R_maker 38 = .ok (.iload_n 2, 1) := by decide +kernel
theorem zd_R_maker_39 : decode zb_R_maker 39 = .ok (.iadd, 1) := by decide +kernel
theorem zd_R_maker_40 : decode zb_R_maker 40 = .ok (.iaload, 1) := by decide +kernel
theorem zd_R_maker_41 : decode zb_R_maker 41 = .ok (.istore_n 3, 1) := by decide +kernel
theorem zd_R_maker_42 : decode zb_R_maker 42 = .ok (.iload_n 3, 1) := by decide +kernel
theorem zd_R_maker_43 : decode zb_R_maker 43 = .ok (.iconst (-1), 1) := by decide +kernel
theorem zd_R_maker_44 : decode zb_R_maker 44 = .ok (.if_icmp .ne 7, 3) := by decide +kernel
theorem zd_R_maker_47 : decode zb_R_maker 47 = .ok (.iconst (-1), 1) := by decide +kernel
theorem zd_R_maker_48 : decode zb_R_maker 48 = .ok (.goto 7, 3) := by decide +kernel
theorem zd_R_maker_51 : decode zb_R_maker 51 = .ok (.iload_n 3, 1) := by decide +kernel
theorem zd_R_maker_52 : decode zb_R_maker 52 = .ok (.bipush 16, 2) := by decide +kernel
theorem zd_R_maker_54 : decode zb_R_maker 54 = .ok (.idiv, 1) := by decide +kernel
theorem zd_R_maker_55 : decode zb_R_maker 55 = .ok (.ireturn, 1) := by decide +kernel
theorem zd_L_law_0 : decode zb_L_law 0 = .ok (.new 8, 3) := by decide +kernel
theorem zd_L_law_3 : decode zb_L_law 3 = .ok (.dup, 1) := by decide +kernel
theorem zd_L_law_4 : decode zb_L_law 4 = .ok (.invokespecial 17, 3) := by decide +kernel
theorem zd_L_law_7 : decode zb_L_law 7 = .ok (.astore_n 1, 1) := by decide +kernel
theorem zd_L_law_8 : decode zb_L_law 8 = .ok (.new 18, 3) := by decide +kernel
theorem zd_L_law_11 : decode zb_L_law 11 = .ok (.dup, 1) := by decide +kernel
theorem zd_L_law_12 : decode zb_L_law 12 = .ok (.invokespecial 20, 3) := by decide +kernel
theorem zd_L_law_15 : decode zb_L_law 15 = .ok (.astore_n 2, 1) := by decide +kernel
theorem zd_L_law_16 : decode zb_L_law 16 = .ok (.iconst 1, 1) := by decide +kernel
theorem zd_L_law_17 : decode zb_L_law 17 = .ok (.newarray .long, 2) := by decide +kernel
theorem zd_L_law_19 : decode zb_L_law 19 = .ok (.astore_n 3, 1) := by decide +kernel
theorem zd_L_law_20 : decode zb_L_law 20 = .ok (.iconst 0, 1) := by decide +kernel
theorem zd_L_law_21 : decode zb_L_law 21 = .ok (.istore 4, 2) := by decide +kernel
theorem zd_L_law_23 : decode zb_L_law 23 = .ok (.iload 4, 2) := by decide +kernel
theorem zd_L_law_25 : decode zb_L_law 25 = .ok (.aload_n 0, 1) := by decide +kernel
theorem zd_L_law_26 : decode zb_L_law 26 = .ok (.arraylength, 1) := by decide +kernel
theorem zd_L_law_27 : decode zb_L_law 27 = .ok (.bipush 6, 2) := by decide +kernel
theorem zd_L_law_29 : decode zb_L_law 29 = .ok (.isub, 1) := by decide +kernel
theorem zd_L_law_30 : decode zb_L_law 30 = .ok (.if_icmp .gt 736, 3) := by decide +kernel
theorem zd_L_law_33 : decode zb_L_law 33 = .ok (.aload_n 0, 1) := by decide +kernel
theorem zd_L_law_34 : decode zb_L_law 34 = .ok (.iload 4, 2) := by decide +kernel
theorem zd_L_law_36 : decode zb_L_law 36 = .ok (.iaload, 1) := by decide +kernel
theorem zd_L_law_37 : decode zb_L_law 37 = .ok (.bipush 15, 2) := by decide +kernel
theorem zd_L_law_39 : decode zb_L_law 39 = .ok (.iand, 1) := by decide +kernel
theorem zd_L_law_40 : decode zb_L_law 40 = .ok (.tableswitch 720 0 13 #[72, 141, 166, 191, 240, 321, 394, 431, 480, 505, 554, 633, 670, 683], 72) := by decide +kernel
theorem zd_L_law_112 : decode zb_L_law 112 = .ok (.aload_n 1, 1) := by decide +kernel
theorem zd_L_law_113 : decode zb_L_law 113 = .ok (.aload_n 0, 1) := by decide +kernel
theorem zd_L_law_114 : decode zb_L_law 114 = .ok (.iload 4, 2) := by decide +kernel
theorem zd_L_law_116 : decode zb_L_law 116 = .ok (.iconst 1, 1) := by decide +kernel
theorem zd_L_law_117 : decode zb_L_law 117 = .ok (.iadd, 1) := by decide +kernel
theorem zd_L_law_118 : decode zb_L_law 118 = .ok (.iaload, 1) := by decide +kernel
theorem zd_L_law_119 : decode zb_L_law 119 = .ok (.i2l, 1) := by decide +kernel
theorem zd_L_law_120 : decode zb_L_law 120 = .ok (.bipush 32, 2) := by decide +kernel
theorem zd_L_law_122 : decode zb_L_law 122 = .ok (.lshl, 1) := by decide +kernel
theorem zd_L_law_123 : decode zb_L_law 123 = .ok (.aload_n 0, 1) := by decide +kernel
theorem zd_L_law_124 : decode zb_L_law 124 = .ok (.iload 4, 2) := by decide +kernel
theorem zd_L_law_126 : decode zb_L_law 126 = .ok (.iconst 2, 1) := by decide +kernel
theorem zd_L_law_127 : decode zb_L_law 127 = .ok (.iadd, 1) := by decide +kernel
theorem zd_L_law_128 : decode zb_L_law 128 = .ok (.iaload, 1) := by decide +kernel
theorem zd_L_law_129 : decode zb_L_law 129 = .ok (.i2l, 1) := by decide +kernel
theorem zd_L_law_130 : decode zb_L_law 130 = .ok (.ldc2_w 21, 3) := by decide +kernel
theorem zd_L_law_133 : decode zb_L_law 133 = .ok (.land, 1) := by decide +kernel
theorem zd_L_law_134 : decode zb_L_law 134 = .ok (.lor, 1) := by decide +kernel
theorem zd_L_law_135 : decode zb_L_law 135 = .ok (.aload_n 0, 1) := by decide +kernel
theorem zd_L_law_136 : decode zb_L_law 136 = .ok (.iload 4, 2) := by decide +kernel
theorem zd_L_law_138 : decode zb_L_law 138 = .ok (.iconst 3, 1) := by decide +kernel
theorem zd_L_law_139 : decode zb_L_law 139 = .ok (.iadd, 1) := by decide +kernel
theorem zd_L_law_140 : decode zb_L_law 140 = .ok (.iaload, 1) := by decide +kernel
theorem zd_L_law_141 : decode zb_L_law 141 = .ok (.invokevirtual 23, 3) := by decide +kernel
theorem zd_L_law_144 : decode zb_L_law 144 = .ok (.aload_n 2, 1) := by decide +kernel
theorem zd_L_law_145 : decode zb_L_law 145 = .ok (.aload_n 0, 1) := by decide +kernel
theorem zd_L_law_146 : decode zb_L_law 146 = .ok (.iload 4, 2) := by decide +kernel
theorem zd_L_law_148 : decode zb_L_law 148 = .ok (.iconst 1, 1) := by decide +kernel
theorem zd_L_law_149 : decode zb_L_law 149 = .ok (.iadd, 1) := by decide +kernel
theorem zd_L_law_150 : decode zb_L_law 150 = .ok (.iaload, 1) := by decide +kernel
theorem zd_L_law_151 : decode zb_L_law 151 = .ok (.i2l, 1) := by decide +kernel
theorem zd_L_law_152 : decode zb_L_law 152 = .ok (.bipush 32, 2) := by decide +kernel
theorem zd_L_law_154 : decode zb_L_law 154 = .ok (.lshl, 1) := by decide +kernel
theorem zd_L_law_155 : decode zb_L_law 155 = .ok (.aload_n 0, 1) := by decide +kernel
theorem zd_L_law_156 : decode zb_L_law 156 = .ok (.iload 4, 2) := by decide +kernel
theorem zd_L_law_158 : decode zb_L_law 158 = .ok (.iconst 2, 1) := by decide +kernel
theorem zd_L_law_159 : decode zb_L_law 159 = .ok (.iadd, 1) := by decide +kernel
theorem zd_L_law_160 : decode zb_L_law 160 = .ok (.iaload, 1) := by decide +kernel
theorem zd_L_law_161 : decode zb_L_law 161 = .ok (.i2l, 1) := by decide +kernel
theorem zd_L_law_162 : decode zb_L_law 162 = .ok (.ldc2_w 21, 3) := by decide +kernel
theorem zd_L_law_165 : decode zb_L_law 165 = .ok (.land, 1) := by decide +kernel
theorem zd_L_law_166 : decode zb_L_law 166 = .ok (.lor, 1) := by decide +kernel
theorem zd_L_law_167 : decode zb_L_law 167 = .ok (.aload_n 0, 1) := by decide +kernel
theorem zd_L_law_168 : decode zb_L_law 168 = .ok (.iload 4, 2) := by decide +kernel
theorem zd_L_law_170 : decode zb_L_law 170 = .ok (.iconst 3, 1) := by decide +kernel
theorem zd_L_law_171 : decode zb_L_law 171 = .ok (.iadd, 1) := by decide +kernel
theorem zd_L_law_172 : decode zb_L_law 172 = .ok (.iaload, 1) := by decide +kernel
theorem zd_L_law_173 : decode zb_L_law 173 = .ok (.invokevirtual 27, 3) := by decide +kernel
theorem zd_L_law_176 : decode zb_L_law 176 = .ok (.if_icmp .eq 584, 3) := by decide +kernel
theorem zd_L_law_179 : decode zb_L_law 179 = .ok (.iconst 0, 1) := by decide +kernel
theorem zd_L_law_180 : decode zb_L_law 180 = .ok (.ireturn, 1) := by decide +kernel
theorem zd_L_law_181 : decode zb_L_law 181 = .ok (.aload_n 1, 1) := by decide +kernel
theorem zd_L_law_182 : decode zb_L_law 182 = .ok (.aload_n 0, 1) := by decide +kernel
theorem zd_L_law_183 : decode zb_L_law 183 = .ok (.iload 4, 2) := by decide +kernel
theorem zd_L_law_185 : decode zb_L_law 185 = .ok (.iconst 1, 1) := by decide +kernel
theorem zd_L_law_186 : decode zb_L_law 186 = .ok (.iadd, 1) := by decide +kernel
theorem zd_L_law_187 : decode zb_L_law 187 = .ok (.iaload, 1) := by decide +kernel
theorem zd_L_law_188 : decode zb_L_law 188 = .ok (.invokevirtual 28, 3) := by decide +kernel
theorem zd_L_law_191 : decode zb_L_law 191 = .ok (.aload_n 2, 1) := by decide +kernel
theorem zd_L_law_192 : decode zb_L_law 192 = .ok (.aload_n 0, 1) := by decide +kernel
theorem zd_L_law_193 : decode zb_L_law 193 = .ok (.iload 4, 2) := by decide +kernel
theorem zd_L_law_195 : decode zb_L_law 195 = .ok (.iconst 1, 1) := by decide +kernel
theorem zd_L_law_196 : decode zb_L_law 196 = .ok (.iadd, 1) := by decide +kernel
theorem zd_L_law_197 : decode zb_L_law 197 = .ok (.iaload, 1) := by decide +kernel
theorem zd_L_law_198 : decode zb_L_law 198 = .ok (.invokevirtual 32, 3) := by decide +kernel
theorem zd_L_law_201 : decode zb_L_law 201 = .ok (.if_icmp .eq 559, 3) := by decide +kernel
theorem zd_L_law_204 : decode zb_L_law 204 = .ok (.iconst 0, 1) := by decide +kernel
theorem zd_L_law_205 : decode zb_L_law 205 = .ok (.ireturn, 1) := by decide +kernel
theorem zd_L_law_206 : decode zb_L_law 206 = .ok (.aload_n 1, 1) := by decide +kernel
theorem zd_L_law_207 : decode zb_L_law 207 = .ok (.aload_n 0, 1) := by decide +kernel
theorem zd_L_law_208 : decode zb_L_law 208 = .ok (.iload 4, 2) := by decide +kernel
theorem zd_L_law_210 : decode zb_L_law 210 = .ok (.iconst 1, 1) := by decide +kernel
theorem zd_L_law_211 : decode zb_L_law 211 = .ok (.iadd, 1) := by decide +kernel
theorem zd_L_law_212 : decode zb_L_law 212 = .ok (.iaload, 1) := by decide +kernel
theorem zd_L_law_213 : decode zb_L_law 213 = .ok (.invokevirtual 33, 3) := by decide +kernel
theorem zd_L_law_216 : decode zb_L_law 216 = .ok (.aload_n 2, 1) := by decide +kernel
theorem zd_L_law_217 : decode zb_L_law 217 = .ok (.aload_n 0, 1) := by decide +kernel
theorem zd_L_law_218 : decode zb_L_law 218 = .ok (.iload 4, 2) := by decide +kernel
theorem zd_L_law_220 : decode zb_L_law 220 = .ok (.iconst 1, 1) := by decide +kernel
theorem zd_L_law_221 : decode zb_L_law 221 = .ok (.iadd, 1) := by decide +kernel
theorem zd_L_law_222 : decode zb_L_law 222 = .ok (.iaload, 1) := by decide +kernel
theorem zd_L_law_223 : decode zb_L_law 223 = .ok (.invokevirtual 36, 3) := by decide +kernel
theorem zd_L_law_226 : decode zb_L_law 226 = .ok (.if_icmp .eq 534, 3) := by decide +kernel
theorem zd_L_law_229 : decode zb_L_law 229 = .ok (.iconst 0, 1) := by decide +kernel
theorem zd_L_law_230 : decode zb_L_law 230 = .ok (.ireturn, 1) := by decide +kernel
theorem zd_L_law_231 : decode zb_L_law 231 = .ok (.aload_n 1, 1) := by decide +kernel
theorem zd_L_law_232 : decode zb_L_law 232 = .ok (.aload_n 0, 1) := by decide +kernel
theorem zd_L_law_233 : decode zb_L_law 233 = .ok (.iload 4, 2) := by decide +kernel
theorem zd_L_law_235 : decode zb_L_law 235 = .ok (.iconst 1, 1) := by decide +kernel
theorem zd_L_law_236 : decode zb_L_law 236 = .ok (.iadd, 1) := by decide +kernel
theorem zd_L_law_237 : decode zb_L_law 237 = .ok (.iaload, 1) := by decide +kernel
theorem zd_L_law_238 : decode zb_L_law 238 = .ok (.aload_n 0, 1) := by decide +kernel
theorem zd_L_law_239 : decode zb_L_law 239 = .ok (.iload 4, 2) := by decide +kernel
theorem zd_L_law_241 : decode zb_L_law 241 = .ok (.iconst 2, 1) := by decide +kernel
theorem zd_L_law_242 : decode zb_L_law 242 = .ok (.iadd, 1) := by decide +kernel
theorem zd_L_law_243 : decode zb_L_law 243 = .ok (.iaload, 1) := by decide +kernel
theorem zd_L_law_244 : decode zb_L_law 244 = .ok (.aload_n 0, 1) := by decide +kernel
theorem zd_L_law_245 : decode zb_L_law 245 = .ok (.iload 4, 2) := by decide +kernel
theorem zd_L_law_247 : decode zb_L_law 247 = .ok (.iconst 3, 1) := by decide +kernel
theorem zd_L_law_248 : decode zb_L_law 248 = .ok (.iadd, 1) := by decide +kernel
theorem zd_L_law_249 : decode zb_L_law 249 = .ok (.iaload, 1) := by decide +kernel
theorem zd_L_law_250 : decode zb_L_law 250 = .ok (.invokevirtual 37, 3) := by decide +kernel
theorem zd_L_law_253 : decode zb_L_law 253 = .ok (.aload_n 2, 1) := by decide +kernel
theorem zd_L_law_254 : decode zb_L_law 254 = .ok (.aload_n 0, 1) := by decide +kernel
theorem zd_L_law_255 : decode zb_L_law 255 = .ok (.iload 4, 2) := by decide +kernel
theorem zd_L_law_257 : decode zb_L_law 257 = .ok (.iconst 1, 1) := by decide +kernel
theorem zd_L_law_258 : decode zb_L_law 258 = .ok (.iadd, 1) := by decide +kernel
theorem zd_L_law_259 : decode zb_L_law 259 = .ok (.iaload, 1) := by decide +kernel
theorem zd_L_law_260 : decode zb_L_law 260 = .ok (.aload_n 0, 1) := by decide +kernel
theorem zd_L_law_261 : decode zb_L_law 261 = .ok (.iload 4, 2) := by decide +kernel
theorem zd_L_law_263 : decode zb_L_law 263 = .ok (.iconst 2, 1) := by decide +kernel
theorem zd_L_law_264 : decode zb_L_law 264 = .ok (.iadd, 1) := by decide +kernel
theorem zd_L_law_265 : decode zb_L_law 265 = .ok (.iaload, 1) := by decide +kernel
theorem zd_L_law_266 : decode zb_L_law 266 = .ok (.aload_n 0, 1) := by decide +kernel
theorem zd_L_law_267 : decode zb_L_law 267 = .ok (.iload 4, 2) := by decide +kernel
theorem zd_L_law_269 : decode zb_L_law 269 = .ok (.iconst 3, 1) := by decide +kernel
theorem zd_L_law_270 : decode zb_L_law 270 = .ok (.iadd, 1) := by decide +kernel
theorem zd_L_law_271 : decode zb_L_law 271 = .ok (.iaload, 1) := by decide +kernel
theorem zd_L_law_272 : decode zb_L_law 272 = .ok (.invokevirtual 41, 3) := by decide +kernel
theorem zd_L_law_275 : decode zb_L_law 275 = .ok (.if_icmp .eq 485, 3) := by decide +kernel
theorem zd_L_law_278 : decode zb_L_law 278 = .ok (.iconst 0, 1) := by decide +kernel
theorem zd_L_law_279 : decode zb_L_law 279 = .ok (.ireturn, 1) := by decide +kernel
theorem zd_L_law_280 : decode zb_L_law 280 = .ok (.aload_n 1, 1) := by decide +kernel
theorem zd_L_law_281 : decode zb_L_law 281 = .ok (.aload_n 0, 1) := by decide +kernel
theorem zd_L_law_282 : decode zb_L_law 282 = .ok (.iload 4, 2) := by decide +kernel
theorem zd_L_law_284 : decode zb_L_law 284 = .ok (.iconst 1, 1) := by decide +kernel
theorem zd_L_law_285 : decode zb_L_law 285 = .ok (.iadd, 1) := by decide +kernel
theorem zd_L_law_286 : decode zb_L_law 286 = .ok (.iaload, 1) := by decide +kernel
theorem zd_L_law_287 : decode zb_L_law 287 = .ok (.aload_n 0, 1) := by decide +kernel
theorem zd_L_law_288 : decode zb_L_law 288 = .ok (.iload 4, 2) := by decide +kernel
theorem zd_L_law_290 : decode zb_L_law 290 = .ok (.iconst 2, 1) := by decide +kernel
theorem zd_L_law_291 : decode zb_L_law 291 = .ok (.iadd, 1) := by decide +kernel
theorem zd_L_law_292 : decode zb_L_law 292 = .ok (.iaload, 1) := by decide +kernel
theorem zd_L_law_293 : decode zb_L_law 293 = .ok (.i2l, 1) := by decide +kernel
theorem zd_L_law_294 : decode zb_L_law 294 = .ok (.bipush 32, 2) := by decide +kernel
theorem zd_L_law_296 : decode zb_L_law 296 = .ok (.lshl, 1) := by decide +kernel
theorem zd_L_law_297 : decode zb_L_law 297 = .ok (.aload_n 0, 1) := by decide +kernel
theorem zd_L_law_298 : decode zb_L_law 298 = .ok (.iload 4, 2) := by decide +kernel
theorem zd_L_law_300 : decode zb_L_law 300 = .ok (.iconst 3, 1) := by decide +kernel
theorem zd_L_law_301 : decode zb_L_law 301 = .ok (.iadd, 1) := by decide +kernel
theorem zd_L_law_302 : decode zb_L_law 302 = .ok (.iaload, 1) := by decide +kernel
theorem zd_L_law_303 : decode zb_L_law 303 = .ok (.i2l, 1) := by decide +kernel
theorem zd_L_law_304 : decode zb_L_law 304 = .ok (.ldc2_w 21, 3) := by decide +kernel
theorem zd_L_law_307 : decode zb_L_law 307 = .ok (.land, 1) := by decide +kernel
theorem zd_L_law_308 : decode zb_L_law 308 = .ok (.lor, 1) := by decide +kernel
theorem zd_L_law_309 : decode zb_L_law 309 = .ok (.aload_n 0, 1) := by decide +kernel
theorem zd_L_law_310 : decode zb_L_law 310 = .ok (.iload 4, 2) := by decide +kernel
theorem zd_L_law_312 : decode zb_L_law 312 = .ok (.iconst 4, 1) := by decide +kernel
theorem zd_L_law_313 : decode zb_L_law 313 = .ok (.iadd, 1) := by decide +kernel
theorem zd_L_law_314 : decode zb_L_law 314 = .ok (.iaload, 1) := by decide +kernel
theorem zd_L_law_315 : decode zb_L_law 315 = .ok (.invokevirtual 42, 3) := by decide +kernel
theorem zd_L_law_318 : decode zb_L_law 318 = .ok (.aload_n 2, 1) := by decide +kernel
theorem zd_L_law_319 : decode zb_L_law 319 = .ok (.aload_n 0, 1) := by decide +kernel
theorem zd_L_law_320 : decode zb_L_law 320 = .ok (.iload 4, 2) := by decide +kernel
theorem zd_L_law_322 : decode zb_L_law 322 = .ok (.iconst 1, 1) := by decide +kernel
theorem zd_L_law_323 : decode zb_L_law 323 = .ok (.iadd, 1) := by decide +kernel
theorem zd_L_law_324 : decode zb_L_law 324 = .ok (.iaload, 1) := by decide +kernel
theorem zd_L_law_325 : decode zb_L_law 325 = .ok (.aload_n 0, 1) := by decide +kernel
theorem zd_L_law_326 : decode zb_L_law 326 = .ok (.iload 4, 2) := by decide +kernel
theorem zd_L_law_328 : decode zb_L_law 328 = .ok (.iconst 2, 1) := by decide +kernel
theorem zd_L_law_329 : decode zb_L_law 329 = .ok (.iadd, 1) := by decide +kernel
theorem zd_L_law_330 : decode zb_L_law 330 = .ok (.iaload, 1) := by decide +kernel
theorem zd_L_law_331 : decode zb_L_law 331 = .ok (.i2l, 1) := by decide +kernel
theorem zd_L_law_332 : decode zb_L_law 332 = .ok (.bipush 32, 2) := by decide +kernel
theorem zd_L_law_334 : decode zb_L_law 334 = .ok (.lshl, 1) := by decide +kernel
theorem zd_L_law_335 : decode zb_L_law 335 = .ok (.aload_n 0, 1) := by decide +kernel
theorem zd_L_law_336 : decode zb_L_law 336 = .ok (.iload 4, 2) := by decide +kernel
theorem zd_L_law_338 : decode zb_L_law 338 = .ok (.iconst 3, 1) := by decide +kernel
theorem zd_L_law_339 : decode zb_L_law 339 = .ok (.iadd, 1) := by decide +kernel
theorem zd_L_law_340 : decode zb_L_law 340 = .ok (.iaload, 1) := by decide +kernel
theorem zd_L_law_341 : decode zb_L_law 341 = .ok (.i2l, 1) := by decide +kernel
theorem zd_L_law_342 : decode zb_L_law 342 = .ok (.ldc2_w 21, 3) := by decide +kernel
theorem zd_L_law_345 : decode zb_L_law 345 = .ok (.land, 1) := by decide +kernel
theorem zd_L_law_346 : decode zb_L_law 346 = .ok (.lor, 1) := by decide +kernel
theorem zd_L_law_347 : decode zb_L_law 347 = .ok (.aload_n 0, 1) := by decide +kernel
theorem zd_L_law_348 : decode zb_L_law 348 = .ok (.iload 4, 2) := by decide +kernel
theorem zd_L_law_350 : decode zb_L_law 350 = .ok (.iconst 4, 1) := by decide +kernel
theorem zd_L_law_351 : decode zb_L_law 351 = .ok (.iadd, 1) := by decide +kernel
theorem zd_L_law_352 : decode zb_L_law 352 = .ok (.iaload, 1) := by decide +kernel
theorem zd_L_law_353 : decode zb_L_law 353 = .ok (.invokevirtual 46, 3) := by decide +kernel
theorem zd_L_law_356 : decode zb_L_law 356 = .ok (.if_icmp .eq 404, 3) := by decide +kernel
theorem zd_L_law_359 : decode zb_L_law 359 = .ok (.iconst 0, 1) := by decide +kernel
theorem zd_L_law_360 : decode zb_L_law 360 = .ok (.ireturn, 1) := by decide +kernel
theorem zd_L_law_361 : decode zb_L_law 361 = .ok (.aload_n 1, 1) := by decide +kernel
theorem zd_L_law_362 : decode zb_L_law 362 = .ok (.aload_n 0, 1) := by decide +kernel
theorem zd_L_law_363 : decode zb_L_law 363 = .ok (.iload 4, 2) := by decide +kernel
theorem zd_L_law_365 : decode zb_L_law 365 = .ok (.iconst 1, 1) := by decide +kernel
theorem zd_L_law_366 : decode zb_L_law 366 = .ok (.iadd, 1) := by decide +kernel
theorem zd_L_law_367 : decode zb_L_law 367 = .ok (.iaload, 1) := by decide +kernel
theorem zd_L_law_368 : decode zb_L_law 368 = .ok (.aload_n 0, 1) := by decide +kernel
theorem zd_L_law_369 : decode zb_L_law 369 = .ok (.iload 4, 2) := by decide +kernel
theorem zd_L_law_371 : decode zb_L_law 371 = .ok (.iconst 2, 1) := by decide +kernel
theorem zd_L_law_372 : decode zb_L_law 372 = .ok (.iadd, 1) := by decide +kernel
theorem zd_L_law_373 : decode zb_L_law 373 = .ok (.iaload, 1) := by decide +kernel
theorem zd_L_law_374 : decode zb_L_law 374 = .ok (.aload_n 0, 1) := by decide +kernel
theorem zd_L_law_375 : decode zb_L_law 375 = .ok (.iload 4, 2) := by decide +kernel
theorem zd_L_law_377 : decode zb_L_law 377 = .ok (.iconst 3, 1) := by decide +kernel
theorem zd_L_law_378 : decode zb_L_law 378 = .ok (.iadd, 1) := by decide +kernel
theorem zd_L_law_379 : decode zb_L_law 379 = .ok (.iaload, 1) := by decide +kernel
theorem zd_L_law_380 : decode zb_L_law 380 = .ok (.aload_n 0, 1) := by decide +kernel
theorem zd_L_law_381 : decode zb_L_law 381 = .ok (.iload 4, 2) := by decide +kernel
theorem zd_L_law_383 : decode zb_L_law 383 = .ok (.iconst 4, 1) := by decide +kernel
theorem zd_L_law_384 : decode zb_L_law 384 = .ok (.iadd, 1) := by decide +kernel
theorem zd_L_law_385 : decode zb_L_law 385 = .ok (.iaload, 1) := by decide +kernel
theorem zd_L_law_386 : decode zb_L_law 386 = .ok (.aload_n 0, 1) := by decide +kernel
theorem zd_L_law_387 : decode zb_L_law 387 = .ok (.iload 4, 2) := by decide +kernel
theorem zd_L_law_389 : decode zb_L_law 389 = .ok (.iconst 5, 1) := by decide +kernel
theorem zd_L_law_390 : decode zb_L_law 390 = .ok (.iadd, 1) := by decide +kernel
theorem zd_L_law_391 : decode zb_L_law 391 = .ok (.iaload, 1) := by decide +kernel
theorem zd_L_law_392 : decode zb_L_law 392 = .ok (.invokevirtual 47, 3) := by decide +kernel
theorem zd_L_law_395 : decode zb_L_law 395 = .ok (.aload_n 2, 1) := by decide +kernel
theorem zd_L_law_396 : decode zb_L_law 396 = .ok (.aload_n 0, 1) := by decide +kernel
theorem zd_L_law_397 : decode zb_L_law 397 = .ok (.iload 4, 2) := by decide +kernel
theorem zd_L_law_399 : decode zb_L_law 399 = .ok (.iconst 1, 1) := by decide +kernel
theorem zd_L_law_400 : decode zb_L_law 400 = .ok (.iadd, 1) := by decide +kernel
theorem zd_L_law_401 : decode zb_L_law 401 = .ok (.iaload, 1) := by decide +kernel
theorem zd_L_law_402 : decode zb_L_law 402 = .ok (.aload_n 0, 1) := by decide +kernel
theorem zd_L_law_403 : decode zb_L_law 403 = .ok (.iload 4, 2) := by decide +kernel
theorem zd_L_law_405 : decode zb_L_law 405 = .ok (.iconst 2, 1) := by decide +kernel
theorem zd_L_law_406 : decode zb_L_law 406 = .ok (.iadd, 1) := by decide +kernel
theorem zd_L_law_407 : decode zb_L_law 407 = .ok (.iaload, 1) := by decide +kernel
theorem zd_L_law_408 : decode zb_L_law 408 = .ok (.aload_n 0, 1) := by decide +kernel
theorem zd_L_law_409 : decode zb_L_law 409 = .ok (.iload 4, 2) := by decide +kernel
theorem zd_L_law_411 : decode zb_L_law 411 = .ok (.iconst 3, 1) := by decide +kernel
theorem zd_L_law_412 : decode zb_L_law 412 = .ok (.iadd, 1) := by decide +kernel
theorem zd_L_law_413 : decode zb_L_law 413 = .ok (.iaload, 1) := by decide +kernel
theorem zd_L_law_414 : decode zb_L_law 414 = .ok (.aload_n 0, 1) := by decide +kernel
theorem zd_L_law_415 : decode zb_L_law 415 = .ok (.iload 4, 2) := by decide +kernel
theorem zd_L_law_417 : decode zb_L_law 417 = .ok (.iconst 4, 1) := by decide +kernel
theorem zd_L_law_418 : decode zb_L_law 418 = .ok (.iadd, 1) := by decide +kernel
theorem zd_L_law_419 : decode zb_L_law 419 = .ok (.iaload, 1) := by decide +kernel
theorem zd_L_law_420 : decode zb_L_law 420 = .ok (.aload_n 0, 1) := by decide +kernel
theorem zd_L_law_421 : decode zb_L_law 421 = .ok (.iload 4, 2) := by decide +kernel
theorem zd_L_law_423 : decode zb_L_law 423 = .ok (.iconst 5, 1) := by decide +kernel
theorem zd_L_law_424 : decode zb_L_law 424 = .ok (.iadd, 1) := by decide +kernel
theorem zd_L_law_425 : decode zb_L_law 425 = .ok (.iaload, 1) := by decide +kernel
theorem zd_L_law_426 : decode zb_L_law 426 = .ok (.invokevirtual 51, 3) := by decide +kernel
theorem zd_L_law_429 : decode zb_L_law 429 = .ok (.if_icmp .eq 331, 3) := by decide +kernel
theorem zd_L_law_432 : decode zb_L_law 432 = .ok (.iconst 0, 1) := by decide +kernel
theorem zd_L_law_433 : decode zb_L_law 433 = .ok (.ireturn, 1) := by decide +kernel
theorem zd_L_law_434 : decode zb_L_law 434 = .ok (.aload_n 1, 1) := by decide +kernel
theorem zd_L_law_435 : decode zb_L_law 435 = .ok (.aload_n 0, 1) := by decide +kernel
theorem zd_L_law_436 : decode zb_L_law 436 = .ok (.iload 4, 2) := by decide +kernel
theorem zd_L_law_438 : decode zb_L_law 438 = .ok (.iconst 1, 1) := by decide +kernel
theorem zd_L_law_439 : decode zb_L_law 439 = .ok (.iadd, 1) := by decide +kernel
theorem zd_L_law_440 : decode zb_L_law 440 = .ok (.iaload, 1) := by decide +kernel
theorem zd_L_law_441 : decode zb_L_law 441 = .ok (.aload_n 0, 1) := by decide +kernel
theorem zd_L_law_442 : decode zb_L_law 442 = .ok (.iload 4, 2) := by decide +kernel
theorem zd_L_law_444 : decode zb_L_law 444 = .ok (.iconst 2, 1) := by decide +kernel
theorem zd_L_law_445 : decode zb_L_law 445 = .ok (.iadd, 1) := by decide +kernel
theorem zd_L_law_446 : decode zb_L_law 446 = .ok (.iaload, 1) := by decide +kernel
theorem zd_L_law_447 : decode zb_L_law 447 = .ok (.invokevirtual 52, 3) := by decide +kernel
theorem zd_L_law_450 : decode zb_L_law 450 = .ok (.aload_n 2, 1) := by decide +kernel
theorem zd_L_law_451 : decode zb_L_law 451 = .ok (.aload_n 0, 1) := by decide +kernel
theorem zd_L_law_452 : decode zb_L_law 452 = .ok (.iload 4, 2) := by decide +kernel
theorem zd_L_law_454 : decode zb_L_law 454 = .ok (.iconst 1, 1) := by decide +kernel
theorem zd_L_law_455 : decode zb_L_law 455 = .ok (.iadd, 1) := by decide +kernel
theorem zd_L_law_456 : decode zb_L_law 456 = .ok (.iaload, 1) := by decide +kernel
theorem zd_L_law_457 : decode zb_L_law 457 = .ok (.aload_n 0, 1) := by decide +kernel
theorem zd_L_law_458 : decode zb_L_law 458 = .ok (.iload 4, 2) := by decide +kernel
theorem zd_L_law_460 : decode zb_L_law 460 = .ok (.iconst 2, 1) := by decide +kernel
theorem zd_L_law_461 : decode zb_L_law 461 = .ok (.iadd, 1) := by decide +kernel
theorem zd_L_law_462 : decode zb_L_law 462 = .ok (.iaload, 1) := by decide +kernel
theorem zd_L_law_463 : decode zb_L_law 463 = .ok (.invokevirtual 56, 3) := by decide +kernel
theorem zd_L_law_466 : decode zb_L_law 466 = .ok (.if_icmp .eq 294, 3) := by decide +kernel
theorem zd_L_law_469 : decode zb_L_law 469 = .ok (.iconst 0, 1) := by decide +kernel
theorem zd_L_law_470 : decode zb_L_law 470 = .ok (.ireturn, 1) := by decide +kernel
theorem zd_L_law_471 : decode zb_L_law 471 = .ok (.aload_n 1, 1) := by decide +kernel
theorem zd_L_law_472 : decode zb_L_law 472 = .ok (.aload_n 0, 1) := by decide +kernel
theorem zd_L_law_473 : decode zb_L_law 473 = .ok (.iload 4, 2) := by decide +kernel
theorem zd_L_law_475 : decode zb_L_law 475 = .ok (.iconst 1, 1) := by decide +kernel
theorem zd_L_law_476 : decode zb_L_law 476 = .ok (.iadd, 1) := by decide +kernel
theorem zd_L_law_477 : decode zb_L_law 477 = .ok (.iaload, 1) := by decide +kernel
theorem zd_L_law_478 : decode zb_L_law 478 = .ok (.aload_n 0, 1) := by decide +kernel
theorem zd_L_law_479 : decode zb_L_law 479 = .ok (.iload 4, 2) := by decide +kernel
theorem zd_L_law_481 : decode zb_L_law 481 = .ok (.iconst 2, 1) := by decide +kernel
theorem zd_L_law_482 : decode zb_L_law 482 = .ok (.iadd, 1) := by decide +kernel
theorem zd_L_law_483 : decode zb_L_law 483 = .ok (.iaload, 1) := by decide +kernel
theorem zd_L_law_484 : decode zb_L_law 484 = .ok (.aload_n 0, 1) := by decide +kernel
theorem zd_L_law_485 : decode zb_L_law 485 = .ok (.iload 4, 2) := by decide +kernel
theorem zd_L_law_487 : decode zb_L_law 487 = .ok (.iconst 3, 1) := by decide +kernel
theorem zd_L_law_488 : decode zb_L_law 488 = .ok (.iadd, 1) := by decide +kernel
theorem zd_L_law_489 : decode zb_L_law 489 = .ok (.iaload, 1) := by decide +kernel
theorem zd_L_law_490 : decode zb_L_law 490 = .ok (.invokevirtual 57, 3) := by decide +kernel
theorem zd_L_law_493 : decode zb_L_law 493 = .ok (.aload_n 2, 1) := by decide +kernel
theorem zd_L_law_494 : decode zb_L_law 494 = .ok (.aload_n 0, 1) := by decide +kernel
theorem zd_L_law_495 : decode zb_L_law 495 = .ok (.iload 4, 2) := by decide +kernel
theorem zd_L_law_497 : decode zb_L_law 497 = .ok (.iconst 1, 1) := by decide +kernel
theorem zd_L_law_498 : decode zb_L_law 498 = .ok (.iadd, 1) := by decide +kernel
theorem zd_L_law_499 : decode zb_L_law 499 = .ok (.iaload, 1) := by decide +kernel
theorem zd_L_law_500 : decode zb_L_law 500 = .ok (.aload_n 0, 1) := by decide +kernel
theorem zd_L_law_501 : decode zb_L_law 501 = .ok (.iload 4, 2) := by decide +kernel
theorem zd_L_law_503 : decode zb_L_law 503 = .ok (.iconst 2, 1) := by decide +kernel
theorem zd_L_law_504 : decode zb_L_law 504 = .ok (.iadd, 1) := by decide +kernel
theorem zd_L_law_505 : decode zb_L_law 505 = .ok (.iaload, 1) := by decide +kernel
theorem zd_L_law_506 : decode zb_L_law 506 = .ok (.aload_n 0, 1) := by decide +kernel
theorem zd_L_law_507 : decode zb_L_law 507 = .ok (.iload 4, 2) := by decide +kernel
theorem zd_L_law_509 : decode zb_L_law 509 = .ok (.iconst 3, 1) := by decide +kernel
theorem zd_L_law_510 : decode zb_L_law 510 = .ok (.iadd, 1) := by decide +kernel
theorem zd_L_law_511 : decode zb_L_law 511 = .ok (.iaload, 1) := by decide +kernel
theorem zd_L_law_512 : decode zb_L_law 512 = .ok (.invokevirtual 61, 3) := by decide +kernel
theorem zd_L_law_515 : decode zb_L_law 515 = .ok (.if_icmp .eq 245, 3) := by decide +kernel
theorem zd_L_law_518 : decode zb_L_law 518 = .ok (.iconst 0, 1) := by decide +kernel
theorem zd_L_law_519 : decode zb_L_law 519 = .ok (.ireturn, 1) := by decide +kernel
theorem zd_L_law_520 : decode zb_L_law 520 = .ok (.aload_n 1, 1) := by decide +kernel
theorem zd_L_law_521 : decode zb_L_law 521 = .ok (.aload_n 0, 1) := by decide +kernel
theorem zd_L_law_522 : decode zb_L_law 522 = .ok (.iload 4, 2) := by decide +kernel
theorem zd_L_law_524 : decode zb_L_law 524 = .ok (.iconst 1, 1) := by decide +kernel
theorem zd_L_law_525 : decode zb_L_law 525 = .ok (.iadd, 1) := by decide +kernel
theorem zd_L_law_526 : decode zb_L_law 526 = .ok (.iaload, 1) := by decide +kernel
theorem zd_L_law_527 : decode zb_L_law 527 = .ok (.invokevirtual 62, 3) := by decide +kernel
theorem zd_L_law_530 : decode zb_L_law 530 = .ok (.aload_n 2, 1) := by decide +kernel
theorem zd_L_law_531 : decode zb_L_law 531 = .ok (.aload_n 0, 1) := by decide +kernel
theorem zd_L_law_532 : decode zb_L_law 532 = .ok (.iload 4, 2) := by decide +kernel
theorem zd_L_law_534 : decode zb_L_law 534 = .ok (.iconst 1, 1) := by decide +kernel
theorem zd_L_law_535 : decode zb_L_law 535 = .ok (.iadd, 1) := by decide +kernel
theorem zd_L_law_536 : decode zb_L_law 536 = .ok (.iaload, 1) := by decide +kernel
theorem zd_L_law_537 : decode zb_L_law 537 = .ok (.invokevirtual 65, 3) := by decide +kernel
theorem zd_L_law_540 : decode zb_L_law 540 = .ok (.if_icmp .eq 220, 3) := by decide +kernel
theorem zd_L_law_543 : decode zb_L_law 543 = .ok (.iconst 0, 1) := by decide +kernel
theorem zd_L_law_544 : decode zb_L_law 544 = .ok (.ireturn, 1) := by decide +kernel
theorem zd_L_law_545 : decode zb_L_law 545 = .ok (.aload_n 1, 1) := by decide +kernel
theorem zd_L_law_546 : decode zb_L_law 546 = .ok (.aload_n 0, 1) := by decide +kernel
theorem zd_L_law_547 : decode zb_L_law 547 = .ok (.iload 4, 2) := by decide +kernel
theorem zd_L_law_549 : decode zb_L_law 549 = .ok (.iconst 1, 1) := by decide +kernel
theorem zd_L_law_550 : decode zb_L_law 550 = .ok (.iadd, 1) := by decide +kernel
theorem zd_L_law_551 : decode zb_L_law 551 = .ok (.iaload, 1) := by decide +kernel
theorem zd_L_law_552 : decode zb_L_law 552 = .ok (.aload_n 0, 1) := by decide +kernel
theorem zd_L_law_553 : decode zb_L_law 553 = .ok (.iload 4, 2) := by decide +kernel
theorem zd_L_law_555 : decode zb_L_law 555 = .ok (.iconst 2, 1) := by decide +kernel
theorem zd_L_law_556 : decode zb_L_law 556 = .ok (.iadd, 1) := by decide +kernel
theorem zd_L_law_557 : decode zb_L_law 557 = .ok (.iaload, 1) := by decide +kernel
theorem zd_L_law_558 : decode zb_L_law 558 = .ok (.aload_n 0, 1) := by decide +kernel
theorem zd_L_law_559 : decode zb_L_law 559 = .ok (.iload 4, 2) := by decide +kernel
theorem zd_L_law_561 : decode zb_L_law 561 = .ok (.iconst 3, 1) := by decide +kernel
theorem zd_L_law_562 : decode zb_L_law 562 = .ok (.iadd, 1) := by decide +kernel
theorem zd_L_law_563 : decode zb_L_law 563 = .ok (.iaload, 1) := by decide +kernel
theorem zd_L_law_564 : decode zb_L_law 564 = .ok (.invokevirtual 66, 3) := by decide +kernel
theorem zd_L_law_567 : decode zb_L_law 567 = .ok (.aload_n 2, 1) := by decide +kernel
theorem zd_L_law_568 : decode zb_L_law 568 = .ok (.aload_n 0, 1) := by decide +kernel
theorem zd_L_law_569 : decode zb_L_law 569 = .ok (.iload 4, 2) := by decide +kernel
theorem zd_L_law_571 : decode zb_L_law 571 = .ok (.iconst 1, 1) := by decide +kernel
theorem zd_L_law_572 : decode zb_L_law 572 = .ok (.iadd, 1) := by decide +kernel
theorem zd_L_law_573 : decode zb_L_law 573 = .ok (.iaload, 1) := by decide +kernel
theorem zd_L_law_574 : decode zb_L_law 574 = .ok (.aload_n 0, 1) := by decide +kernel
theorem zd_L_law_575 : decode zb_L_law 575 = .ok (.iload 4, 2) := by decide +kernel
theorem zd_L_law_577 : decode zb_L_law 577 = .ok (.iconst 2, 1) := by decide +kernel
theorem zd_L_law_578 : decode zb_L_law 578 = .ok (.iadd, 1) := by decide +kernel
theorem zd_L_law_579 : decode zb_L_law 579 = .ok (.iaload, 1) := by decide +kernel
theorem zd_L_law_580 : decode zb_L_law 580 = .ok (.aload_n 0, 1) := by decide +kernel
theorem zd_L_law_581 : decode zb_L_law 581 = .ok (.iload 4, 2) := by decide +kernel
theorem zd_L_law_583 : decode zb_L_law 583 = .ok (.iconst 3, 1) := by decide +kernel
theorem zd_L_law_584 : decode zb_L_law 584 = .ok (.iadd, 1) := by decide +kernel
theorem zd_L_law_585 : decode zb_L_law 585 = .ok (.iaload, 1) := by decide +kernel
theorem zd_L_law_586 : decode zb_L_law 586 = .ok (.invokevirtual 69, 3) := by decide +kernel
theorem zd_L_law_589 : decode zb_L_law 589 = .ok (.if_icmp .eq 171, 3) := by decide +kernel
theorem zd_L_law_592 : decode zb_L_law 592 = .ok (.iconst 0, 1) := by decide +kernel
theorem zd_L_law_593 : decode zb_L_law 593 = .ok (.ireturn, 1) := by decide +kernel
theorem zd_L_law_594 : decode zb_L_law 594 = .ok (.aload_n 1, 1) := by decide +kernel
theorem zd_L_law_595 : decode zb_L_law 595 = .ok (.aload_n 0, 1) := by decide +kernel
theorem zd_L_law_596 : decode zb_L_law 596 = .ok (.iload 4, 2) := by decide +kernel
theorem zd_L_law_598 : decode zb_L_law 598 = .ok (.iconst 1, 1) := by decide +kernel
theorem zd_L_law_599 : decode zb_L_law 599 = .ok (.iadd, 1) := by decide +kernel
theorem zd_L_law_600 : decode zb_L_law 600 = .ok (.iaload, 1) := by decide +kernel
theorem zd_L_law_601 : decode zb_L_law 601 = .ok (.aload_n 0, 1) := by decide +kernel
theorem zd_L_law_602 : decode zb_L_law 602 = .ok (.iload 4, 2) := by decide +kernel
theorem zd_L_law_604 : decode zb_L_law 604 = .ok (.iconst 2, 1) := by decide +kernel
theorem zd_L_law_605 : decode zb_L_law 605 = .ok (.iadd, 1) := by decide +kernel
theorem zd_L_law_606 : decode zb_L_law 606 = .ok (.iaload, 1) := by decide +kernel
theorem zd_L_law_607 : decode zb_L_law 607 = .ok (.aload_n 0, 1) := by decide +kernel
theorem zd_L_law_608 : decode zb_L_law 608 = .ok (.iload 4, 2) := by decide +kernel
theorem zd_L_law_610 : decode zb_L_law 610 = .ok (.iconst 3, 1) := by decide +kernel
theorem zd_L_law_611 : decode zb_L_law 611 = .ok (.iadd, 1) := by decide +kernel
theorem zd_L_law_612 : decode zb_L_law 612 = .ok (.iaload, 1) := by decide +kernel
theorem zd_L_law_613 : decode zb_L_law 613 = .ok (.aload_n 3, 1) := by decide +kernel
theorem zd_L_law_614 : decode zb_L_law 614 = .ok (.invokestatic 70, 3) := by decide +kernel
theorem zd_L_law_617 : decode zb_L_law 617 = .ok (.istore 5, 2) := by decide +kernel
theorem zd_L_law_619 : decode zb_L_law 619 = .ok (.aload_n 2, 1) := by decide +kernel
theorem zd_L_law_620 : decode zb_L_law 620 = .ok (.aload_n 0, 1) := by decide +kernel
theorem zd_L_law_621 : decode zb_L_law 621 = .ok (.iload 4, 2) := by decide +kernel
theorem zd_L_law_623 : decode zb_L_law 623 = .ok (.iconst 1, 1) := by decide +kernel
theorem zd_L_law_624 : decode zb_L_law 624 = .ok (.iadd, 1) := by decide +kernel
theorem zd_L_law_625 : decode zb_L_law 625 = .ok (.iaload, 1) := by decide +kernel
theorem zd_L_law_626 : decode zb_L_law 626 = .ok (.aload_n 0, 1) := by decide +kernel
theorem zd_L_law_627 : decode zb_L_law 627 = .ok (.iload 4, 2) := by decide +kernel
theorem zd_L_law_629 : decode zb_L_law 629 = .ok (.iconst 2, 1) := by decide +kernel
theorem zd_L_law_630 : decode zb_L_law 630 = .ok (.iadd, 1) := by decide +kernel
theorem zd_L_law_631 : decode zb_L_law 631 = .ok (.iaload, 1) := by decide +kernel
theorem zd_L_law_632 : decode zb_L_law 632 = .ok (.aload_n 0, 1) := by decide +kernel
theorem zd_L_law_633 : decode zb_L_law 633 = .ok (.iload 4, 2) := by decide +kernel
theorem zd_L_law_635 : decode zb_L_law 635 = .ok (.iconst 3, 1) := by decide +kernel
theorem zd_L_law_636 : decode zb_L_law 636 = .ok (.iadd, 1) := by decide +kernel
theorem zd_L_law_637 : decode zb_L_law 637 = .ok (.iaload, 1) := by decide +kernel
theorem zd_L_law_638 : decode zb_L_law 638 = .ok (.invokevirtual 75, 3) := by decide +kernel
theorem zd_L_law_641 : decode zb_L_law 641 = .ok (.lstore 6, 2) := by decide +kernel
theorem zd_L_law_643 : decode zb_L_law 643 = .ok (.aload_n 2, 1) := by decide +kernel
theorem zd_L_law_644 : decode zb_L_law 644 = .ok (.invokevirtual 76, 3) := by decide +kernel
theorem zd_L_law_647 : decode zb_L_law 647 = .ok (.iload 5, 2) := by decide +kernel
theorem zd_L_law_649 : decode zb_L_law 649 = .ok (.if_icmp .eq 5, 3) := by decide +kernel
theorem zd_L_law_652 : decode zb_L_law 652 = .ok (.iconst 0, 1) := by decide +kernel
theorem zd_L_law_653 : decode zb_L_law 653 = .ok (.ireturn, 1) := by decide +kernel
theorem zd_L_law_654 : decode zb_L_law 654 = .ok (.iload 5, 2) := by decide +kernel
theorem zd_L_law_656 : decode zb_L_law 656 = .ok (.ifCond .ne 14, 3) := by decide +kernel
theorem zd_L_law_659 : decode zb_L_law 659 = .ok (.aload_n 3, 1) := by decide +kernel
theorem zd_L_law_660 : decode zb_L_law 660 = .ok (.iconst 0, 1) := by decide +kernel
theorem zd_L_law_661 : decode zb_L_law 661 = .ok (.laload, 1) := by decide +kernel
theorem zd_L_law_662 : decode zb_L_law 662 = .ok (.lload 6, 2) := by decide +kernel
theorem zd_L_law_664 : decode zb_L_law 664 = .ok (.lcmp, 1) := by decide +kernel
theorem zd_L_law_665 : decode zb_L_law 665 = .ok (.ifCond .eq 5, 3) := by decide +kernel
theorem zd_L_law_668 : decode zb_L_law 668 = .ok (.iconst 0, 1) := by decide +kernel
theorem zd_L_law_669 : decode zb_L_law 669 = .ok (.ireturn, 1) := by decide +kernel
theorem zd_L_law_670 : decode zb_L_law 670 = .ok (.goto 90, 3) := by decide +kernel
theorem zd_L_law_673 : decode zb_L_law 673 = .ok (.aload_n 1, 1) := by decide +kernel
theorem zd_L_law_674 : decode zb_L_law 674 = .ok (.aload_n 0, 1) := by decide +kernel
theorem zd_L_law_675 : decode zb_L_law 675 = .ok (.iload 4, 2) := by decide +kernel
theorem zd_L_law_677 : decode zb_L_law 677 = .ok (.iconst 1, 1) := by decide +kernel
theorem zd_L_law_678 : decode zb_L_law 678 = .ok (.iadd, 1) := by decide +kernel
theorem zd_L_law_679 : decode zb_L_law 679 = .ok (.iaload, 1) := by decide +kernel
theorem zd_L_law_680 : decode zb_L_law 680 = .ok (.aload_n 0, 1) := by decide +kernel
theorem zd_L_law_681 : decode zb_L_law 681 = .ok (.iload 4, 2) := by decide +kernel
theorem zd_L_law_683 : decode zb_L_law 683 = .ok (.iconst 2, 1) := by decide +kernel
theorem zd_L_law_684 : decode zb_L_law 684 = .ok (.iadd, 1) := by decide +kernel
theorem zd_L_law_685 : decode zb_L_law 685 = .ok (.iaload, 1) := by decide +kernel
theorem zd_L_law_686 : decode zb_L_law 686 = .ok (.invokevirtual 80, 3) := by decide +kernel
theorem zd_L_law_689 : decode zb_L_law 689 = .ok (.aload_n 2, 1) := by decide +kernel
theorem zd_L_law_690 : decode zb_L_law 690 = .ok (.aload_n 0, 1) := by decide +kernel
theorem zd_L_law_691 : decode zb_L_law 691 = .ok (.iload 4, 2) := by decide +kernel
theorem zd_L_law_693 : decode zb_L_law 693 = .ok (.iconst 1, 1) := by decide +kernel
theorem zd_L_law_694 : decode zb_L_law 694 = .ok (.iadd, 1) := by decide +kernel
theorem zd_L_law_695 : decode zb_L_law 695 = .ok (.iaload, 1) := by decide +kernel
theorem zd_L_law_696 : decode zb_L_law 696 = .ok (.aload_n 0, 1) := by decide +kernel
theorem zd_L_law_697 : decode zb_L_law 697 = .ok (.iload 4, 2) := by decide +kernel
theorem zd_L_law_699 : decode zb_L_law 699 = .ok (.iconst 2, 1) := by decide +kernel
theorem zd_L_law_700 : decode zb_L_law 700 = .ok (.iadd, 1) := by decide +kernel
theorem zd_L_law_701 : decode zb_L_law 701 = .ok (.iaload, 1) := by decide +kernel
theorem zd_L_law_702 : decode zb_L_law 702 = .ok (.invokevirtual 83, 3) := by decide +kernel
theorem zd_L_law_705 : decode zb_L_law 705 = .ok (.if_icmp .eq 55, 3) := by decide +kernel
theorem zd_L_law_708 : decode zb_L_law 708 = .ok (.iconst 0, 1) := by decide +kernel
theorem zd_L_law_709 : decode zb_L_law 709 = .ok (.ireturn, 1) := by decide +kernel
theorem zd_L_law_710 : decode zb_L_law 710 = .ok (.aload_n 1, 1) := by decide +kernel
theorem zd_L_law_711 : decode zb_L_law 711 = .ok (.invokevirtual 84, 3) := by decide +kernel
theorem zd_L_law_714 : decode zb_L_law 714 = .ok (.aload_n 2, 1) := by decide +kernel
theorem zd_L_law_715 : decode zb_L_law 715 = .ok (.invokevirtual 87, 3) := by decide +kernel
theorem zd_L_law_718 : decode zb_L_law 718 = .ok (.if_icmp .eq 42, 3) := by decide +kernel
theorem zd_L_law_721 : decode zb_L_law 721 = .ok (.iconst 0, 1) := by decide +kernel
theorem zd_L_law_722 : decode zb_L_law 722 = .ok (.ireturn, 1) := by decide +kernel
theorem zd_L_law_723 : decode zb_L_law 723 = .ok (.aload_n 1, 1) := by decide +kernel
theorem zd_L_law_724 : decode zb_L_law 724 = .ok (.aload_n 0, 1) := by decide +kernel
theorem zd_L_law_725 : decode zb_L_law 725 = .ok (.iload 4, 2) := by decide +kernel
theorem zd_L_law_727 : decode zb_L_law 727 = .ok (.iconst 1, 1) := by decide +kernel
theorem zd_L_law_728 : decode zb_L_law 728 = .ok (.iadd, 1) := by decide +kernel
theorem zd_L_law_729 : decode zb_L_law 729 = .ok (.iaload, 1) := by decide +kernel
theorem zd_L_law_730 : decode zb_L_law 730 = .ok (.aload_n 0, 1) := by decide +kernel
theorem zd_L_law_731 : decode zb_L_law 731 = .ok (.iload 4, 2) := by decide +kernel
theorem zd_L_law_733 : decode zb_L_law 733 = .ok (.iconst 2, 1) := by decide +kernel
theorem zd_L_law_734 : decode zb_L_law 734 = .ok (.iadd, 1) := by decide +kernel
theorem zd_L_law_735 : decode zb_L_law 735 = .ok (.iaload, 1) := by decide +kernel
theorem zd_L_law_736 : decode zb_L_law 736 = .ok (.invokevirtual 88, 3) := by decide +kernel
