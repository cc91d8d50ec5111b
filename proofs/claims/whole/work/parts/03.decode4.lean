theorem zd_R_apply_76 : decode zb_R_apply 76 = .ok (.invokevirtual 123, 3) := by decide +kernel
theorem zd_R_apply_79 : decode zb_R_apply 79 = .ok (.aload_n 0, 1) := by decide +kernel
theorem zd_R_apply_80 : decode zb_R_apply 80 = .ok (.getfield 117, 3) := by decide +kernel
theorem zd_R_apply_83 : decode zb_R_apply 83 = .ok (.ifCond .le 10, 3) := by decide +kernel
theorem zd_R_apply_86 : decode zb_R_apply 86 = .ok (.aload_n 0, 1) := by decide +kernel
theorem zd_R_apply_87 : decode zb_R_apply 87 = .ok (.invokevirtual 156, 3) := by decide +kernel
theorem zd_R_apply_90 : decode zb_R_apply 90 = .ok (.goto (-11), 3) := by decide +kernel
theorem zd_R_apply_93 : decode zb_R_apply 93 = .ok (.aload_n 0, 1) := by decide +kernel
theorem zd_R_apply_94 : decode zb_R_apply 94 = .ok (.getfield 145, 3) := by decide +kernel
theorem zd_R_apply_97 : decode zb_R_apply 97 = .ok (.ifCond .eq 8, 3) := by decide +kernel
theorem zd_R_apply_100 : decode zb_R_apply 100 = .ok (.bipush (-2), 2) := by decide +kernel
theorem zd_R_apply_102 : decode zb_R_apply 102 = .ok (.goto 19, 3) := by decide +kernel
theorem zd_R_apply_105 : decode zb_R_apply 105 = .ok (.aload_n 0, 1) := by decide +kernel
theorem zd_R_apply_106 : decode zb_R_apply 106 = .ok (.getfield 47, 3) := by decide +kernel
theorem zd_R_apply_109 : decode zb_R_apply 109 = .ok (.iload 4, 2) := by decide +kernel
theorem zd_R_apply_111 : decode zb_R_apply 111 = .ok (.iaload, 1) := by decide +kernel
theorem zd_R_apply_112 : decode zb_R_apply 112 = .ok (.iconst 2, 1) := by decide +kernel
theorem zd_R_apply_113 : decode zb_R_apply 113 = .ok (.if_icmp .ne 7, 3) := by decide +kernel
theorem zd_R_apply_116 : decode zb_R_apply 116 = .ok (.iconst 1, 1) := by decide +kernel
theorem zd_R_apply_117 : decode zb_R_apply 117 = .ok (.goto 4, 3) := by decide +kernel
theorem zd_R_apply_120 : decode zb_R_apply 120 = .ok (.iconst 0, 1) := by decide +kernel
theorem zd_R_apply_121 : decode zb_R_apply 121 = .ok (.ireturn, 1) := by decide +kernel
theorem zd_R_isSetting_0 : decode zb_R_isSetting 0 = .ok (.iload_n 0, 1) := by decide +kernel
theorem zd_R_isSetting_1 : decode zb_R_isSetting 1 = .ok (.ifCond .lt 13, 3) := by decide +kernel
theorem zd_R_isSetting_4 : decode zb_R_isSetting 4 = .ok (.iload_n 0, 1) := by decide +kernel
theorem zd_R_isSetting_5 : decode zb_R_isSetting 5 = .ok (.bipush 16, 2) := by decide +kernel
theorem zd_R_isSetting_7 : decode zb_R_isSetting 7 = .ok (.if_icmp .ge 7, 3) := by decide +kernel
theorem zd_R_isSetting_10 : decode zb_R_isSetting 10 = .ok (.iconst 1, 1) := by decide +kernel
theorem zd_R_isSetting_11 : decode zb_R_isSetting 11 = .ok (.goto 4, 3) := by decide +kernel
theorem zd_R_isSetting_14 : decode zb_R_isSetting 14 = .ok (.iconst 0, 1) := by decide +kernel
theorem zd_R_isSetting_15 : decode zb_R_isSetting 15 = .ok (.ireturn, 1) := by decide +kernel
theorem zd_R_push_0 : decode zb_R_push 0 = .ok (.aload_n 0, 1) := by decide +kernel
theorem zd_R_push_1 : decode zb_R_push 1 = .ok (.getfield 62, 3) := by decide +kernel
theorem zd_R_push_4 : decode zb_R_push 4 = .ok (.aload_n 0, 1) := by decide +kernel
theorem zd_R_push_5 : decode zb_R_push 5 = .ok (.getfield 117, 3) := by decide +kernel
theorem zd_R_push_8 : decode zb_R_push 8 = .ok (.iload_n 1, 1) := by decide +kernel
theorem zd_R_push_9 : decode zb_R_push 9 = .ok (.iastore, 1) := by decide +kernel
theorem zd_R_push_10 : decode zb_R_push 10 = .ok (.aload_n 0, 1) := by decide +kernel
theorem zd_R_push_11 : decode zb_R_push 11 = .ok (.getfield 65, 3) := by decide +kernel
theorem zd_R_push_14 : decode zb_R_push 14 = .ok (.aload_n 0, 1) := by decide +kernel
theorem zd_R_push_15 : decode zb_R_push 15 = .ok (.getfield 117, 3) := by decide +kernel
theorem zd_R_push_18 : decode zb_R_push 18 = .ok (.iload_n 2, 1) := by decide +kernel
theorem zd_R_push_19 : decode zb_R_push 19 = .ok (.iastore, 1) := by decide +kernel
theorem zd_R_push_20 : decode zb_R_push 20 = .ok (.aload_n 0, 1) := by decide +kernel
theorem zd_R_push_21 : decode zb_R_push 21 = .ok (.dup, 1) := by decide +kernel
theorem zd_R_push_22 : decode zb_R_push 22 = .ok (.getfield 117, 3) := by decide +kernel
theorem zd_R_push_25 : decode zb_R_push 25 = .ok (.iconst 1, 1) := by decide +kernel
theorem zd_R_push_26 : decode zb_R_push 26 = .ok (.iadd, 1) := by decide +kernel
theorem zd_R_push_27 : decode zb_R_push 27 = .ok (.putfield 117, 3) := by decide +kernel
theorem zd_R_push_30 : decode zb_R_push 30 = .ok (.return_, 1) := by decide +kernel
theorem zd_R_goOn_0 : decode zb_R_goOn 0 = .ok (.aload_n 0, 1) := by decide +kernel
theorem zd_R_goOn_1 : decode zb_R_goOn 1 = .ok (.getfield 62, 3) := by decide +kernel
theorem zd_R_goOn_4 : decode zb_R_goOn 4 = .ok (.aload_n 0, 1) := by decide +kernel
theorem zd_R_goOn_5 : decode zb_R_goOn 5 = .ok (.getfield 117, 3) := by decide +kernel
theorem zd_R_goOn_8 : decode zb_R_goOn 8 = .ok (.iconst 1, 1) := by decide +kernel
theorem zd_R_goOn_9 : decode zb_R_goOn 9 = .ok (.isub, 1) := by decide +kernel
theorem zd_R_goOn_10 : decode zb_R_goOn 10 = .ok (.iaload, 1) := by decide +kernel
theorem zd_R_goOn_11 : decode zb_R_goOn 11 = .ok (.istore_n 1, 1) := by decide +kernel
theorem zd_R_goOn_12 : decode zb_R_goOn 12 = .ok (.aload_n 0, 1) := by decide +kernel
theorem zd_R_goOn_13 : decode zb_R_goOn 13 = .ok (.getfield 65, 3) := by decide +kernel
theorem zd_R_goOn_16 : decode zb_R_goOn 16 = .ok (.aload_n 0, 1) := by decide +kernel
theorem zd_R_goOn_17 : decode zb_R_goOn 17 = .ok (.getfield 117, 3) := by decide +kernel
theorem zd_R_goOn_20 : decode zb_R_goOn 20 = .ok (.iconst 1, 1) := by decide +kernel
theorem zd_R_goOn_21 : decode zb_R_goOn 21 = .ok (.isub, 1) := by decide +kernel
theorem zd_R_goOn_22 : decode zb_R_goOn 22 = .ok (.iaload, 1) := by decide +kernel
theorem zd_R_goOn_23 : decode zb_R_goOn 23 = .ok (.istore_n 2, 1) := by decide +kernel
theorem zd_R_goOn_24 : decode zb_R_goOn 24 = .ok (.aload_n 0, 1) := by decide +kernel
theorem zd_R_goOn_25 : decode zb_R_goOn 25 = .ok (.iload_n 1, 1) := by decide +kernel
theorem zd_R_goOn_26 : decode zb_R_goOn 26 = .ok (.iload_n 2, 1) := by decide +kernel
theorem zd_R_goOn_27 : decode zb_R_goOn 27 = .ok (.invokevirtual 133, 3) := by decide +kernel
theorem zd_R_goOn_30 : decode zb_R_goOn 30 = .ok (.ifCond .eq 4, 3) := by decide +kernel
theorem zd_R_goOn_33 : decode zb_R_goOn 33 = .ok (.return_, 1) := by decide +kernel
theorem zd_R_goOn_34 : decode zb_R_goOn 34 = .ok (.iload_n 1, 1) := by decide +kernel
theorem zd_R_goOn_35 : decode zb_R_goOn 35 = .ok (.iload_n 2, 1) := by decide +kernel
theorem zd_R_goOn_36 : decode zb_R_goOn 36 = .ok (.aload_n 0, 1) := by decide +kernel
theorem zd_R_goOn_37 : decode zb_R_goOn 37 = .ok (.getfield 120, 3) := by decide +kernel
theorem zd_R_goOn_40 : decode zb_R_goOn 40 = .ok (.invokestatic 103, 3) := by decide +kernel
theorem zd_R_goOn_43 : decode zb_R_goOn 43 = .ok (.istore_n 3, 1) := by decide +kernel
theorem zd_R_goOn_44 : decode zb_R_goOn 44 = .ok (.aload_n 0, 1) := by decide +kernel
theorem zd_R_goOn_45 : decode zb_R_goOn 45 = .ok (.iload_n 1, 1) := by decide +kernel
theorem zd_R_goOn_46 : decode zb_R_goOn 46 = .ok (.iload_n 2, 1) := by decide +kernel
theorem zd_R_goOn_47 : decode zb_R_goOn 47 = .ok (.invokevirtual 136, 3) := by decide +kernel
theorem zd_R_goOn_50 : decode zb_R_goOn 50 = .ok (.ifCond .ne 21, 3) := by decide +kernel
theorem zd_R_goOn_53 : decode zb_R_goOn 53 = .ok (.aload_n 0, 1) := by decide +kernel
theorem zd_R_goOn_54 : decode zb_R_goOn 54 = .ok (.getfield 47, 3) := by decide +kernel
theorem zd_R_goOn_57 : decode zb_R_goOn 57 = .ok (.iload_n 3, 1) := by decide +kernel
theorem zd_R_goOn_58 : decode zb_R_goOn 58 = .ok (.iconst 1, 1) := by decide +kernel
theorem zd_R_goOn_59 : decode zb_R_goOn 59 = .ok (.iastore, 1) := by decide +kernel
theorem zd_R_goOn_60 : decode zb_R_goOn 60 = .ok (.aload_n 0, 1) := by decide +kernel
theorem zd_R_goOn_61 : decode zb_R_goOn 61 = .ok (.dup, 1) := by decide +kernel
theorem zd_R_goOn_62 : decode zb_R_goOn 62 = .ok (.getfield 117, 3) := by decide +kernel
theorem zd_R_goOn_65 : decode zb_R_goOn 65 = .ok (.iconst 1, 1) := by decide +kernel
theorem zd_R_goOn_66 : decode zb_R_goOn 66 = .ok (.isub, 1) := by decide +kernel
theorem zd_R_goOn_67 : decode zb_R_goOn 67 = .ok (.putfield 117, 3) := by decide +kernel
theorem zd_R_goOn_70 : decode zb_R_goOn 70 = .ok (.return_, 1) := by decide +kernel
theorem zd_R_goOn_71 : decode zb_R_goOn 71 = .ok (.aload_n 0, 1) := by decide +kernel
theorem zd_R_goOn_72 : decode zb_R_goOn 72 = .ok (.iload_n 1, 1) := by decide +kernel
theorem zd_R_goOn_73 : decode zb_R_goOn 73 = .ok (.iload_n 2, 1) := by decide +kernel
theorem zd_R_goOn_74 : decode zb_R_goOn 74 = .ok (.invokevirtual 139, 3) := by decide +kernel
theorem zd_R_goOn_77 : decode zb_R_goOn 77 = .ok (.ifCond .eq 4, 3) := by decide +kernel
theorem zd_R_goOn_80 : decode zb_R_goOn 80 = .ok (.return_, 1) := by decide +kernel
theorem zd_R_goOn_81 : decode zb_R_goOn 81 = .ok (.aload_n 0, 1) := by decide +kernel
theorem zd_R_goOn_82 : decode zb_R_goOn 82 = .ok (.iload_n 1, 1) := by decide +kernel
theorem zd_R_goOn_83 : decode zb_R_goOn 83 = .ok (.iload_n 2, 1) := by decide +kernel
theorem zd_R_goOn_84 : decode zb_R_goOn 84 = .ok (.invokevirtual 142, 3) := by decide +kernel
theorem zd_R_goOn_87 : decode zb_R_goOn 87 = .ok (.ifCond .ne 14, 3) := by decide +kernel
theorem zd_R_goOn_90 : decode zb_R_goOn 90 = .ok (.aload_n 0, 1) := by decide +kernel
theorem zd_R_goOn_91 : decode zb_R_goOn 91 = .ok (.iconst 1, 1) := by decide +kernel
theorem zd_R_goOn_92 : decode zb_R_goOn 92 = .ok (.putfield 145, 3) := by decide +kernel
theorem zd_R_goOn_95 : decode zb_R_goOn 95 = .ok (.aload_n 0, 1) := by decide +kernel
theorem zd_R_goOn_96 : decode zb_R_goOn 96 = .ok (.iconst 0, 1) := by decide +kernel
theorem zd_R_goOn_97 : decode zb_R_goOn 97 = .ok (.putfield 117, 3) := by decide +kernel
theorem zd_R_goOn_100 : decode zb_R_goOn 100 = .ok (.return_, 1) := by decide +kernel
theorem zd_R_goOn_101 : decode zb_R_goOn 101 = .ok (.aload_n 0, 1) := by decide +kernel
theorem zd_R_goOn_102 : decode zb_R_goOn 102 = .ok (.getfield 50, 3) := by decide +kernel
theorem zd_R_goOn_105 : decode zb_R_goOn 105 = .ok (.iload_n 3, 1) := by decide +kernel
theorem zd_R_goOn_106 : decode zb_R_goOn 106 = .ok (.aload_n 0, 1) := by decide +kernel
theorem zd_R_goOn_107 : decode zb_R_goOn 107 = .ok (.iload_n 1, 1) := by decide +kernel
theorem zd_R_goOn_108 : decode zb_R_goOn 108 = .ok (.iload_n 2, 1) := by decide +kernel
theorem zd_R_goOn_109 : decode zb_R_goOn 109 = .ok (.invokevirtual 149, 3) := by decide +kernel
theorem zd_R_goOn_112 : decode zb_R_goOn 112 = .ok (.lastore, 1) := by decide +kernel
theorem zd_R_goOn_113 : decode zb_R_goOn 113 = .ok (.aload_n 0, 1) := by decide +kernel
theorem zd_R_goOn_114 : decode zb_R_goOn 114 = .ok (.getfield 47, 3) := by decide +kernel
theorem zd_R_goOn_117 : decode zb_R_goOn 117 = .ok (.iload_n 3, 1) := by decide +kernel
theorem zd_R_goOn_118 : decode zb_R_goOn 118 = .ok (.iconst 2, 1) := by decide +kernel
theorem zd_R_goOn_119 : decode zb_R_goOn 119 = .ok (.iastore, 1) := by decide +kernel
theorem zd_R_goOn_120 : decode zb_R_goOn 120 = .ok (.aload_n 0, 1) := by decide +kernel
theorem zd_R_goOn_121 : decode zb_R_goOn 121 = .ok (.getfield 53, 3) := by decide +kernel
theorem zd_R_goOn_124 : decode zb_R_goOn 124 = .ok (.bipush 8, 2) := by decide +kernel
theorem zd_R_goOn_126 : decode zb_R_goOn 126 = .ok (.iload_n 1, 1) := by decide +kernel
theorem zd_R_goOn_127 : decode zb_R_goOn 127 = .ok (.imul, 1) := by decide +kernel
theorem zd_R_goOn_128 : decode zb_R_goOn 128 = .ok (.iload_n 2, 1) := by decide +kernel
theorem zd_R_goOn_129 : decode zb_R_goOn 129 = .ok (.iadd, 1) := by decide +kernel
theorem zd_R_goOn_130 : decode zb_R_goOn 130 = .ok (.dup2, 1) := by decide +kernel
theorem zd_R_goOn_131 : decode zb_R_goOn 131 = .ok (.iaload, 1) := by decide +kernel
theorem zd_R_goOn_132 : decode zb_R_goOn 132 = .ok (.iconst 1, 1) := by decide +kernel
theorem zd_R_goOn_133 : decode zb_R_goOn 133 = .ok (.iadd, 1) := by decide +kernel
theorem zd_R_goOn_134 : decode zb_R_goOn 134 = .ok (.iastore, 1) := by decide +kernel
theorem zd_R_goOn_135 : decode zb_R_goOn 135 = .ok (.aload_n 0, 1) := by decide +kernel
theorem zd_R_goOn_136 : decode zb_R_goOn 136 = .ok (.dup, 1) := by decide +kernel
theorem zd_R_goOn_137 : decode zb_R_goOn 137 = .ok (.getfield 117, 3) := by decide +kernel
theorem zd_R_goOn_140 : decode zb_R_goOn 140 = .ok (.iconst 1, 1) := by decide +kernel
theorem zd_R_goOn_141 : decode zb_R_goOn 141 = .ok (.isub, 1) := by decide +kernel
theorem zd_R_goOn_142 : decode zb_R_goOn 142 = .ok (.putfield 117, 3) := by decide +kernel
theorem zd_R_goOn_145 : decode zb_R_goOn 145 = .ok (.return_, 1) := by decide +kernel
theorem zd_R_waitsForNeed_0 : decode zb_R_waitsForNeed 0 = .ok (.iconst 0, 1) := by decide +kernel
theorem zd_R_waitsForNeed_1 : decode zb_R_waitsForNeed 1 = .ok (.istore_n 3, 1) := by decide +kernel
theorem zd_R_waitsForNeed_2 : decode zb_R_waitsForNeed 2 = .ok (.iload_n 3, 1) := by decide +kernel
theorem zd_R_waitsForNeed_3 : decode zb_R_waitsForNeed 3 = .ok (.aload_n 0, 1) := by decide +kernel
theorem zd_R_waitsForNeed_4 : decode zb_R_waitsForNeed 4 = .ok (.getfield 41, 3) := by decide +kernel
theorem zd_R_waitsForNeed_7 : decode zb_R_waitsForNeed 7 = .ok (.iload_n 2, 1) := by decide +kernel
theorem zd_R_waitsForNeed_8 : decode zb_R_waitsForNeed 8 = .ok (.iaload, 1) := by decide +kernel
theorem zd_R_waitsForNeed_9 : decode zb_R_waitsForNeed 9 = .ok (.if_icmp .ge 51, 3) := by decide +kernel
theorem zd_R_waitsForNeed_12 : decode zb_R_waitsForNeed 12 = .ok (.aload_n 0, 1) := by decide +kernel
theorem zd_R_waitsForNeed_13 : decode zb_R_waitsForNeed 13 = .ok (.getfield 44, 3) := by decide +kernel
theorem zd_R_waitsForNeed_16 : decode zb_R_waitsForNeed 16 = .ok (.iconst 3, 1) := by decide +kernel
theorem zd_R_waitsForNeed_17 : decode zb_R_waitsForNeed 17 = .ok (.iload_n 2, 1) := by decide +kernel
theorem zd_R_waitsForNeed_18 : decode zb_R_waitsForNeed 18 = .ok (.imul, 1) := by decide +kernel
theorem zd_R_waitsForNeed_19 : decode zb_R_waitsForNeed 19 = .ok (.iload_n 3, 1) := by decide +kernel
theorem zd_R_waitsForNeed_20 : decode zb_R_waitsForNeed 20 = .ok (.iadd, 1) := by decide +kernel
theorem zd_R_waitsForNeed_21 : decode zb_R_waitsForNeed 21 = .ok (.iaload, 1) := by decide +kernel
theorem zd_R_waitsForNeed_22 : decode zb_R_waitsForNeed 22 = .ok (.istore 4, 2) := by decide +kernel
theorem zd_R_waitsForNeed_24 : decode zb_R_waitsForNeed 24 = .ok (.aload_n 0, 1) := by decide +kernel
theorem zd_R_waitsForNeed_25 : decode zb_R_waitsForNeed 25 = .ok (.getfield 47, 3) := by decide +kernel
theorem zd_R_waitsForNeed_28 : decode zb_R_waitsForNeed 28 = .ok (.iload_n 1, 1) := by decide +kernel
theorem zd_R_waitsForNeed_29 : decode zb_R_waitsForNeed 29 = .ok (.iload 4, 2) := by decide +kernel
theorem zd_R_waitsForNeed_31 : decode zb_R_waitsForNeed 31 = .ok (.aload_n 0, 1) := by decide +kernel
theorem zd_R_waitsForNeed_32 : decode zb_R_waitsForNeed 32 = .ok (.getfield 120, 3) := by decide +kernel
theorem zd_R_waitsForNeed_35 : decode zb_R_waitsForNeed 35 = .ok (.invokestatic 103, 3) := by decide +kernel
theorem zd_R_waitsForNeed_38 : decode zb_R_waitsForNeed 38 = .ok (.iaload, 1) := by decide +kernel
theorem zd_R_waitsForNeed_39 : decode zb_R_waitsForNeed 39 = .ok (.ifCond .eq 6, 3) := by decide +kernel
theorem zd_R_waitsForNeed_42 : decode zb_R_waitsForNeed 42 = .ok (.goto 12, 3) := by decide +kernel
theorem zd_R_waitsForNeed_45 : decode zb_R_waitsForNeed 45 = .ok (.aload_n 0, 1) := by decide +kernel
theorem zd_R_waitsForNeed_46 : decode zb_R_waitsForNeed 46 = .ok (.iload_n 1, 1) := by decide +kernel
theorem zd_R_waitsForNeed_47 : decode zb_R_waitsForNeed 47 = .ok (.iload 4, 2) := by decide +kernel
theorem zd_R_waitsForNeed_49 : decode zb_R_waitsForNeed 49 = .ok (.invokevirtual 123, 3) := by decide +kernel
theorem zd_R_waitsForNeed_52 : decode zb_R_waitsForNeed 52 = .ok (.iconst 1, 1) := by decide +kernel
theorem zd_R_waitsForNeed_53 : decode zb_R_waitsForNeed 53 = .ok (.ireturn, 1) := by decide +kernel
theorem zd_R_waitsForNeed_54 : decode zb_R_waitsForNeed 54 = .ok (.iinc 3 1, 3) := by decide +kernel
theorem zd_R_waitsForNeed_57 : decode zb_R_waitsForNeed 57 = .ok (.goto (-55), 3) := by decide +kernel
theorem zd_R_waitsForNeed_60 : decode zb_R_waitsForNeed 60 = .ok (.iconst 0, 1) := by decide +kernel
theorem zd_R_waitsForNeed_61 : decode zb_R_waitsForNeed 61 = .ok (.ireturn, 1) := by decide +kernel
theorem zd_R_hasAllWanted_0 : decode zb_R_hasAllWanted 0 = .ok (.aload_n 0, 1) := by decide +kernel
theorem zd_R_hasAllWanted_1 : decode zb_R_hasAllWanted 1 = .ok (.getfield 17, 3) := by decide +kernel
theorem zd_R_hasAllWanted_4 : decode zb_R_hasAllWanted 4 = .ok (.iload_n 1, 1) := by decide +kernel
theorem zd_R_hasAllWanted_5 : decode zb_R_hasAllWanted 5 = .ok (.iaload, 1) := by decide +kernel
theorem zd_R_hasAllWanted_6 : decode zb_R_hasAllWanted 6 = .ok (.istore_n 3, 1) := by decide +kernel
theorem zd_R_hasAllWanted_7 : decode zb_R_hasAllWanted 7 = .ok (.iconst 0, 1) := by decide +kernel
theorem zd_R_hasAllWanted_8 : decode zb_R_hasAllWanted 8 = .ok (.istore 4, 2) := by decide +kernel
theorem zd_R_hasAllWanted_10 : decode zb_R_hasAllWanted 10 = .ok (.iload 4, 2) := by decide +kernel
theorem zd_R_hasAllWanted_12 : decode zb_R_hasAllWanted 12 = .ok (.aload_n 0, 1) := by decide +kernel
theorem zd_R_hasAllWanted_13 : decode zb_R_hasAllWanted 13 = .ok (.getfield 41, 3) := by decide +kernel
theorem zd_R_hasAllWanted_16 : decode zb_R_hasAllWanted 16 = .ok (.iload_n 2, 1) := by decide +kernel
theorem zd_R_hasAllWanted_17 : decode zb_R_hasAllWanted 17 = .ok (.iaload, 1) := by decide +kernel
theorem zd_R_hasAllWanted_18 : decode zb_R_hasAllWanted 18 = .ok (.if_icmp .ge 55, 3) := by decide +kernel
theorem zd_R_hasAllWanted_21 : decode zb_R_hasAllWanted 21 = .ok (.aload_n 0, 1) := by decide +kernel
theorem zd_R_hasAllWanted_22 : decode zb_R_hasAllWanted 22 = .ok (.getfield 44, 3) := by decide +kernel
theorem zd_R_hasAllWanted_25 : decode zb_R_hasAllWanted 25 = .ok (.iconst 3, 1) := by decide +kernel
theorem zd_R_hasAllWanted_26 : decode zb_R_hasAllWanted 26 = .ok (.iload_n 2, 1) := by decide +kernel
theorem zd_R_hasAllWanted_27 : decode zb_R_hasAllWanted 27 = .ok (.imul, 1) := by decide +kernel
theorem zd_R_hasAllWanted_28 : decode zb_R_hasAllWanted 28 = .ok (.iload 4, 2) := by decide +kernel
theorem zd_R_hasAllWanted_30 : decode zb_R_hasAllWanted 30 = .ok (.iadd, 1) := by decide +kernel
theorem zd_R_hasAllWanted_31 : decode zb_R_hasAllWanted 31 = .ok (.iaload, 1) := by decide +kernel
theorem zd_R_hasAllWanted_32 : decode zb_R_hasAllWanted 32 = .ok (.istore 5, 2) := by decide +kernel
theorem zd_R_hasAllWanted_34 : decode zb_R_hasAllWanted 34 = .ok (.iload_n 3, 1) := by decide +kernel
theorem zd_R_hasAllWanted_35 : decode zb_R_hasAllWanted 35 = .ok (.aload_n 0, 1) := by decide +kernel
theorem zd_R_hasAllWanted_36 : decode zb_R_hasAllWanted 36 = .ok (.getfield 47, 3) := by decide +kernel
theorem zd_R_hasAllWanted_39 : decode zb_R_hasAllWanted 39 = .ok (.iload_n 1, 1) := by decide +kernel
theorem zd_R_hasAllWanted_40 : decode zb_R_hasAllWanted 40 = .ok (.iload 5, 2) := by decide +kernel
theorem zd_R_hasAllWanted_42 : decode zb_R_hasAllWanted 42 = .ok (.aload_n 0, 1) := by decide +kernel
theorem zd_R_hasAllWanted_43 : decode zb_R_hasAllWanted 43 = .ok (.getfield 120, 3) := by decide +kernel
theorem zd_R_hasAllWanted_46 : decode zb_R_hasAllWanted 46 = .ok (.invokestatic 103, 3) := by decide +kernel
theorem zd_R_hasAllWanted_49 : decode zb_R_hasAllWanted 49 = .ok (.iaload, 1) := by decide +kernel
theorem zd_R_hasAllWanted_50 : decode zb_R_hasAllWanted 50 = .ok (.iconst 2, 1) := by decide +kernel
theorem zd_R_hasAllWanted_51 : decode zb_R_hasAllWanted 51 = .ok (.if_icmp .ne 13, 3) := by decide +kernel
theorem zd_R_hasAllWanted_54 : decode zb_R_hasAllWanted 54 = .ok (.aload_n 0, 1) := by decide +kernel
theorem zd_R_hasAllWanted_55 : decode zb_R_hasAllWanted 55 = .ok (.getfield 35, 3) := by decide +kernel
theorem zd_R_hasAllWanted_58 : decode zb_R_hasAllWanted 58 = .ok (.iload 5, 2) := by decide +kernel
theorem zd_R_hasAllWanted_60 : decode zb_R_hasAllWanted 60 = .ok (.iaload, 1) := by decide +kernel
theorem zd_R_hasAllWanted_61 : decode zb_R_hasAllWanted 61 = .ok (.goto 4, 3) := by decide +kernel
theorem zd_R_hasAllWanted_64 : decode zb_R_hasAllWanted 64 = .ok (.iconst 0, 1) := by decide +kernel
theorem zd_R_hasAllWanted_65 : decode zb_R_hasAllWanted 65 = .ok (.ior, 1) := by decide +kernel
theorem zd_R_hasAllWanted_66 : decode zb_R_hasAllWanted 66 = .ok (.istore_n 3, 1) := by decide +kernel
theorem zd_R_hasAllWanted_67 : decode zb_R_hasAllWanted 67 = .ok (.iinc 4 1, 3) := by decide +kernel
theorem zd_R_hasAllWanted_70 : decode zb_R_hasAllWanted 70 = .ok (.goto (-60), 3) := by decide +kernel
theorem zd_R_hasAllWanted_73 : decode zb_R_hasAllWanted 73 = .ok (.aload_n 0, 1) := by decide +kernel
theorem zd_R_hasAllWanted_74 : decode zb_R_hasAllWanted 74 = .ok (.getfield 32, 3) := by decide +kernel
theorem zd_R_hasAllWanted_77 : decode zb_R_hasAllWanted 77 = .ok (.iload_n 2, 1) := by decide +kernel
theorem zd_R_hasAllWanted_78 : decode zb_R_hasAllWanted 78 = .ok (.iaload, 1) := by decide +kernel
theorem zd_R_hasAllWanted_79 : decode zb_R_hasAllWanted 79 = .ok (.iload_n 3, 1) := by decide +kernel
theorem zd_R_hasAllWanted_80 : decode zb_R_hasAllWanted 80 = .ok (.iconst (-1), 1) := by decide +kernel
theorem zd_R_hasAllWanted_81 : decode zb_R_hasAllWanted 81 = .ok (.ixor, 1) := by decide +kernel
theorem zd_R_hasAllWanted_82 : decode zb_R_hasAllWanted 82 = .ok (.iand, 1) := by decide +kernel
theorem zd_R_hasAllWanted_83 : decode zb_R_hasAllWanted 83 = .ok (.ifCond .ne 7, 3) := by decide +kernel
theorem zd_R_hasAllWanted_86 : decode zb_R_hasAllWanted 86 = .ok (.iconst 1, 1) := by decide +kernel
theorem zd_R_hasAllWanted_87 : decode zb_R_hasAllWanted 87 = .ok (.goto 4, 3) := by decide +kernel
theorem zd_R_hasAllWanted_90 : decode zb_R_hasAllWanted 90 = .ok (.iconst 0, 1) := by decide +kernel
theorem zd_R_hasAllWanted_91 : decode zb_R_hasAllWanted 91 = .ok (.ireturn, 1) := by decide +kernel
theorem zd_R_waitsForTarget_0 : decode zb_R_waitsForTarget 0 = .ok (.iconst 0, 1) := by decide +kernel
theorem zd_R_waitsForTarget_1 : decode zb_R_waitsForTarget 1 = .ok (.istore_n 3, 1) := by decide +kernel
theorem zd_R_waitsForTarget_2 : decode zb_R_waitsForTarget 2 = .ok (.iload_n 3, 1) := by decide +kernel
theorem zd_R_waitsForTarget_3 : decode zb_R_waitsForTarget 3 = .ok (.iconst 3, 1) := by decide +kernel
theorem zd_R_waitsForTarget_4 : decode zb_R_waitsForTarget 4 = .ok (.if_icmp .ge 100, 3) := by decide +kernel
theorem zd_R_waitsForTarget_7 : decode zb_R_waitsForTarget 7 = .ok (.iconst 0, 1) := by decide +kernel
theorem zd_R_waitsForTarget_8 : decode zb_R_waitsForTarget 8 = .ok (.istore 4, 2) := by decide +kernel
theorem zd_R_waitsForTarget_10 : decode zb_R_waitsForTarget 10 = .ok (.iload 4, 2) := by decide +kernel
theorem zd_R_waitsForTarget_12 : decode zb_R_waitsForTarget 12 = .ok (.aload_n 0, 1) := by decide +kernel
theorem zd_R_waitsForTarget_13 : decode zb_R_waitsForTarget 13 = .ok (.getfield 20, 3) := by decide +kernel
theorem zd_R_waitsForTarget_16 : decode zb_R_waitsForTarget 16 = .ok (.iconst 3, 1) := by decide +kernel
theorem zd_R_waitsForTarget_17 : decode zb_R_waitsForTarget 17 = .ok (.iload_n 1, 1) := by decide +kernel
theorem zd_R_waitsForTarget_18 : decode zb_R_waitsForTarget 18 = .ok (.imul, 1) := by decide +kernel
theorem zd_R_waitsForTarget_19 : decode zb_R_waitsForTarget 19 = .ok (.iload_n 3, 1) := by decide +kernel
theorem zd_R_waitsForTarget_20 : decode zb_R_waitsForTarget 20 = .ok (.iadd, 1) := by decide +kernel
theorem zd_R_waitsForTarget_21 : decode zb_R_waitsForTarget 21 = .ok (.iaload, 1) := by decide +kernel
theorem zd_R_waitsForTarget_22 : decode zb_R_waitsForTarget 22 = .ok (.if_icmp .ge 76, 3) := by decide +kernel
theorem zd_R_waitsForTarget_25 : decode zb_R_waitsForTarget 25 = .ok (.aload_n 0, 1) := by decide +kernel
theorem zd_R_waitsForTarget_26 : decode zb_R_waitsForTarget 26 = .ok (.getfield 29, 3) := by decide +kernel
theorem zd_R_waitsForTarget_29 : decode zb_R_waitsForTarget 29 = .ok (.iload_n 2, 1) := by decide +kernel
theorem zd_R_waitsForTarget_30 : decode zb_R_waitsForTarget 30 = .ok (.iaload, 1) := by decide +kernel
theorem zd_R_waitsForTarget_31 : decode zb_R_waitsForTarget 31 = .ok (.iload_n 3, 1) := by decide +kernel
theorem zd_R_waitsForTarget_32 : decode zb_R_waitsForTarget 32 = .ok (.ishr, 1) := by decide +kernel
theorem zd_R_waitsForTarget_33 : decode zb_R_waitsForTarget 33 = .ok (.iconst 1, 1) := by decide +kernel
theorem zd_R_waitsForTarget_34 : decode zb_R_waitsForTarget 34 = .ok (.iand, 1) := by decide +kernel
theorem zd_R_waitsForTarget_35 : decode zb_R_waitsForTarget 35 = .ok (.iconst 1, 1) := by decide +kernel
theorem zd_R_waitsForTarget_36 : decode zb_R_waitsForTarget 36 = .ok (.if_icmp .ne 62, 3) := by decide +kernel
theorem zd_R_waitsForTarget_39 : decode zb_R_waitsForTarget 39 = .ok (.aload_n 0, 1) := by decide +kernel
theorem zd_R_waitsForTarget_40 : decode zb_R_waitsForTarget 40 = .ok (.getfield 7, 3) := by decide +kernel
theorem zd_R_waitsForTarget_43 : decode zb_R_waitsForTarget 43 = .ok (.aload_n 0, 1) := by decide +kernel
theorem zd_R_waitsForTarget_44 : decode zb_R_waitsForTarget 44 = .ok (.getfield 23, 3) := by decide +kernel
theorem zd_R_waitsForTarget_47 : decode zb_R_waitsForTarget 47 = .ok (.bipush 12, 2) := by decide +kernel
theorem zd_R_waitsForTarget_49 : decode zb_R_waitsForTarget 49 = .ok (.iload_n 1, 1) := by decide +kernel
theorem zd_R_waitsForTarget_50 : decode zb_R_waitsForTarget 50 = .ok (.imul, 1) := by decide +kernel
theorem zd_R_waitsForTarget_51 : decode zb_R_waitsForTarget 51 = .ok (.iconst 4, 1) := by decide +kernel
theorem zd_R_waitsForTarget_52 : decode zb_R_waitsForTarget 52 = .ok (.iload_n 3, 1) := by decide +kernel
theorem zd_R_waitsForTarget_53 : decode zb_R_waitsForTarget 53 = .ok (.imul, 1) := by decide +kernel
theorem zd_R_waitsForTarget_54 : decode zb_R_waitsForTarget 54 = .ok (.iadd, 1) := by decide +kernel
theorem zd_R_waitsForTarget_55 : decode zb_R_waitsForTarget 55 = .ok (.iload 4, 2) := by decide +kernel
theorem zd_R_waitsForTarget_57 : decode zb_R_waitsForTarget 57 = .ok (.iadd, 1) := by decide +kernel
theorem zd_R_waitsForTarget_58 : decode zb_R_waitsForTarget 58 = .ok (.iaload, 1) := by decide +kernel
theorem zd_R_waitsForTarget_59 : decode zb_R_waitsForTarget 59 = .ok (.iaload, 1) := by decide +kernel
theorem zd_R_waitsForTarget_60 : decode zb_R_waitsForTarget 60 = .ok (.istore 5, 2) := by decide +kernel
theorem zd_R_waitsForTarget_62 : decode zb_R_waitsForTarget 62 = .ok (.aload_n 0, 1) := by decide +kernel
theorem zd_R_waitsForTarget_63 : decode zb_R_waitsForTarget 63 = .ok (.getfield 47, 3) := by decide +kernel
theorem zd_R_waitsForTarget_66 : decode zb_R_waitsForTarget 66 = .ok (.iload 5, 2) := by decide +kernel
theorem zd_R_waitsForTarget_68 : decode zb_R_waitsForTarget 68 = .ok (.iload_n 2, 1) := by decide +kernel
theorem zd_R_waitsForTarget_69 : decode zb_R_waitsForTarget 69 = .ok (.aload_n 0, 1) := by decide +kernel
theorem zd_R_waitsForTarget_70 : decode zb_R_waitsForTarget 70 = .ok (.getfield 120, 3) := by decide +kernel
theorem zd_R_waitsForTarget_73 : decode zb_R_waitsForTarget 73 = .ok (.invokestatic 103, 3) := by decide +kernel
theorem zd_R_waitsForTarget_76 : decode zb_R_waitsForTarget 76 = .ok (.iaload, 1) := by decide +kernel
theorem zd_R_waitsForTarget_77 : decode zb_R_waitsForTarget 77 = .ok (.ifCond .eq 6, 3) := by decide +kernel
theorem zd_R_waitsForTarget_80 : decode zb_R_waitsForTarget 80 = .ok (.goto 12, 3) := by decide +kernel
theorem zd_R_waitsForTarget_83 : decode zb_R_waitsForTarget 83 = .ok (.aload_n 0, 1) := by decide +kernel
theorem zd_R_waitsForTarget_84 : decode zb_R_waitsForTarget 84 = .ok (.iload 5, 2) := by decide +kernel
theorem zd_R_waitsForTarget_86 : decode zb_R_waitsForTarget 86 = .ok (.iload_n 2, 1) := by decide +kernel
theorem zd_R_waitsForTarget_87 : decode zb_R_waitsForTarget 87 = .ok (.invokevirtual 123, 3) := by decide +kernel
theorem zd_R_waitsForTarget_90 : decode zb_R_waitsForTarget 90 = .ok (.iconst 1, 1) := by decide +kernel
theorem zd_R_waitsForTarget_91 : decode zb_R_waitsForTarget 91 = .ok (.ireturn, 1) := by decide +kernel
theorem zd_R_waitsForTarget_92 : decode zb_R_waitsForTarget 92 = .ok (.iinc 4 1, 3) := by decide +kernel
theorem zd_R_waitsForTarget_95 : decode zb_R_waitsForTarget 95 = .ok (.goto (-85), 3) := by decide +kernel
theorem zd_R_waitsForTarget_98 : decode zb_R_waitsForTarget 98 = .ok (.iinc 3 1, 3) := by decide +kernel
theorem zd_R_waitsForTarget_101 : decode zb_R_waitsForTarget 101 = .ok (.goto (-99), 3) := by decide +kernel
theorem zd_R_waitsForTarget_104 : decode zb_R_waitsForTarget 104 = .ok (.iconst 0, 1) := by decide +kernel
theorem zd_R_waitsForTarget_105 : decode zb_R_waitsForTarget 105 = .ok (.ireturn, 1) := by decide +kernel
theorem zd_R_makes_0 : decode zb_R_makes 0 = .ok (.aload_n 0, 1) := by decide +kernel
theorem zd_R_makes_1 : decode zb_R_makes 1 = .ok (.getfield 38, 3) := by decide +kernel
theorem zd_R_makes_4 : decode zb_R_makes 4 = .ok (.iload_n 2, 1) := by decide +kernel
theorem zd_R_makes_5 : decode zb_R_makes 5 = .ok (.iaload, 1) := by decide +kernel
theorem zd_R_makes_6 : decode zb_R_makes 6 = .ok (.iconst (-1), 1) := by decide +kernel
theorem zd_R_makes_7 : decode zb_R_makes 7 = .ok (.if_icmp .ne 5, 3) := by decide +kernel
theorem zd_R_makes_10 : decode zb_R_makes 10 = .ok (.iconst 1, 1) := by decide +kernel
theorem zd_R_makes_11 : decode zb_R_makes 11 = .ok (.ireturn, 1) := by decide +kernel
theorem zd_R_makes_12 : decode zb_R_makes 12 = .ok (.bipush 10, 2) := by decide +kernel
theorem zd_R_makes_14 : decode zb_R_makes 14 = .ok (.iload_n 1, 1) := by decide +kernel
theorem zd_R_makes_15 : decode zb_R_makes 15 = .ok (.imul, 1) := by decide +kernel
theorem zd_R_makes_16 : decode zb_R_makes 16 = .ok (.aload_n 0, 1) := by decide +kernel
theorem zd_R_makes_17 : decode zb_R_makes 17 = .ok (.getfield 38, 3) := by decide +kernel
theorem zd_R_makes_20 : decode zb_R_makes 20 = .ok (.iload_n 2, 1) := by decide +kernel
theorem zd_R_makes_21 : decode zb_R_makes 21 = .ok (.iaload, 1) := by decide +kernel
theorem zd_R_makes_22 : decode zb_R_makes 22 = .ok (.iadd, 1) := by decide +kernel
theorem zd_R_makes_23 : decode zb_R_makes 23 = .ok (.istore_n 3, 1) := by decide +kernel
theorem zd_R_makes_24 : decode zb_R_makes 24 = .ok (.bipush 16, 2) := by decide +kernel
theorem zd_R_makes_26 : decode zb_R_makes 26 = .ok (.iload_n 2, 1) := by decide +kernel
theorem zd_R_makes_27 : decode zb_R_makes 27 = .ok (.imul, 1) := by decide +kernel
theorem zd_R_makes_28 : decode zb_R_makes 28 = .ok (.aload_n 0, 1) := by decide +kernel
theorem zd_R_makes_29 : decode zb_R_makes 29 = .ok (.getfield 120, 3) := by decide +kernel
theorem zd_R_makes_32 : decode zb_R_makes 32 = .ok (.iadd, 1) := by decide +kernel
theorem zd_R_makes_33 : decode zb_R_makes 33 = .ok (.istore 4, 2) := by decide +kernel
theorem zd_R_makes_35 : decode zb_R_makes 35 = .ok (.aload_n 0, 1) := by decide +kernel
theorem zd_R_makes_36 : decode zb_R_makes 36 = .ok (.getfield 56, 3) := by decide +kernel
theorem zd_R_makes_39 : decode zb_R_makes 39 = .ok (.iload_n 3, 1) := by decide +kernel
theorem zd_R_makes_40 : decode zb_R_makes 40 = .ok (.iaload, 1) := by decide +kernel
theorem zd_R_makes_41 : decode zb_R_makes 41 = .ok (.iconst (-1), 1) := by decide +kernel
theorem zd_R_makes_42 : decode zb_R_makes 42 = .ok (.if_icmp .eq 70, 3) := by decide +kernel
theorem zd_R_makes_45 : decode zb_R_makes 45 = .ok (.aload_n 0, 1) := by decide +kernel
theorem zd_R_makes_46 : decode zb_R_makes 46 = .ok (.getfield 56, 3) := by decide +kernel
theorem zd_R_makes_49 : decode zb_R_makes 49 = .ok (.iload_n 3, 1) := by decide +kernel
theorem zd_R_makes_50 : decode zb_R_makes 50 = .ok (.iaload, 1) := by decide +kernel
theorem zd_R_makes_51 : decode zb_R_makes 51 = .ok (.iload 4, 2) := by decide +kernel
theorem zd_R_makes_53 : decode zb_R_makes 53 = .ok (.if_icmp .eq 59, 3) := by decide +kernel
theorem zd_R_makes_56 : decode zb_R_makes 56 = .ok (.aload_n 0, 1) := by decide +kernel
theorem zd_R_makes_57 : decode zb_R_makes 57 = .ok (.getfield 59, 3) := by decide +kernel
theorem zd_R_makes_60 : decode zb_R_makes 60 = .ok (.iconst 0, 1) := by decide +kernel
theorem zd_R_makes_61 : decode zb_R_makes 61 = .ok (.iload_n 1, 1) := by decide +kernel
theorem zd_R_makes_62 : decode zb_R_makes 62 = .ok (.iastore, 1) := by decide +kernel
theorem zd_R_makes_63 : decode zb_R_makes 63 = .ok (.aload_n 0, 1) := by decide +kernel
theorem zd_R_makes_64 : decode zb_R_makes 64 = .ok (.getfield 59, 3) := by decide +kernel
theorem zd_R_makes_67 : decode zb_R_makes 67 = .ok (.iconst 1, 1) := by decide +kernel
theorem zd_R_makes_68 : decode zb_R_makes 68 = .ok (.iload_n 2, 1) := by decide +kernel
theorem zd_R_makes_69 : decode zb_R_makes 69 = .ok (.iastore, 1) := by decide +kernel
theorem zd_R_makes_70 : decode zb_R_makes 70 = .ok (.aload_n 0, 1) := by decide +kernel
theorem zd_R_makes_71 : decode zb_R_makes 71 = .ok (.getfield 59, 3) := by decide +kernel
theorem zd_R_makes_74 : decode zb_R_makes 74 = .ok (.iconst 2, 1) := by decide +kernel
theorem zd_R_makes_75 : decode zb_R_makes 75 = .ok (.aload_n 0, 1) := by decide +kernel
theorem zd_R_makes_76 : decode zb_R_makes 76 = .ok (.getfield 120, 3) := by decide +kernel
theorem zd_R_makes_79 : decode zb_R_makes 79 = .ok (.iastore, 1) := by decide +kernel
theorem zd_R_makes_80 : decode zb_R_makes 80 = .ok (.aload_n 0, 1) := by decide +kernel
theorem zd_R_makes_81 : decode zb_R_makes 81 = .ok (.getfield 59, 3) := by decide +kernel
theorem zd_R_makes_84 : decode zb_R_makes 84 = .ok (.iconst 3, 1) := by decide +kernel
theorem zd_R_makes_85 : decode zb_R_makes 85 = .ok (.aload_n 0, 1) := by decide +kernel
theorem zd_R_makes_86 : decode zb_R_makes 86 = .ok (.getfield 56, 3) := by decide +kernel
theorem zd_R_makes_89 : decode zb_R_makes 89 = .ok (.iload_n 3, 1) := by decide +kernel
theorem zd_R_makes_90 : decode zb_R_makes 90 = .ok (.iaload, 1) := by decide +kernel
theorem zd_R_makes_91 : decode zb_R_makes 91 = .ok (.bipush 16, 2) := by decide +kernel
theorem zd_R_makes_93 : decode zb_R_makes 93 = .ok (.idiv, 1) := by decide +kernel
theorem zd_R_makes_94 : decode zb_R_makes 94 = .ok (.iastore, 1) := by decide +kernel
theorem zd_R_makes_95 : decode zb_R_makes 95 = .ok (.aload_n 0, 1) := by decide +kernel
theorem zd_R_makes_96 : decode zb_R_makes 96 = .ok (.getfield 59, 3) := by decide +kernel
theorem zd_R_makes_99 : decode zb_R_makes 99 = .ok (.iconst 4, 1) := by decide +kernel
theorem zd_R_makes_100 : decode zb_R_makes 100 = .ok (.aload_n 0, 1) := by decide +kernel
theorem zd_R_makes_101 : decode zb_R_makes 101 = .ok (.getfield 56, 3) := by decide +kernel
theorem zd_R_makes_104 : decode zb_R_makes 104 = .ok (.iload_n 3, 1) := by decide +kernel
theorem zd_R_makes_105 : decode zb_R_makes 105 = .ok (.iaload, 1) := by decide +kernel
theorem zd_R_makes_106 : decode zb_R_makes 106 = .ok (.bipush 16, 2) := by decide +kernel
theorem zd_R_makes_108 : decode zb_R_makes 108 = .ok (.irem, 1) := by decide +kernel
theorem zd_R_makes_109 : decode zb_R_makes 109 = .ok (.iastore, 1) := by decide +kernel
theorem zd_R_makes_110 : decode zb_R_makes 110 = .ok (.iconst 0, 1) := by decide +kernel
theorem zd_R_makes_111 : decode zb_R_makes 111 = .ok (.ireturn, 1) := by decide +kernel
theorem zd_R_makes_112 : decode zb_R_makes 112 = .ok (.aload_n 0, 1) := by decide +kernel
theorem zd_R_makes_113 : decode zb_R_makes 113 = .ok (.getfield 56, 3) := by decide +kernel
theorem zd_R_makes_116 : decode zb_R_makes 116 = .ok (.iload_n 3, 1) := by decide +kernel
theorem zd_R_makes_117 : decode zb_R_makes 117 = .ok (.iload 4, 2) := by decide +kernel
theorem zd_R_makes_119 : decode zb_R_makes 119 = .ok (.iastore, 1) := by decide +kernel
theorem zd_R_makes_120 : decode zb_R_makes 120 = .ok (.iconst 1, 1) := by decide +kernel
theorem zd_R_makes_121 : decode zb_R_makes 121 = .ok (.ireturn, 1) := by decide +kernel
theorem zd_R_resultOf_0 : decode zb_R_resultOf 0 = .ok (.aload_n 0, 1) := by decide +kernel
theorem zd_R_resultOf_1 : decode zb_R_resultOf 1 = .ok (.getfield 26, 3) := by decide +kernel
theorem zd_R_resultOf_4 : decode zb_R_resultOf 4 = .ok (.iload_n 2, 1) := by decide +kernel
theorem zd_R_resultOf_5 : decode zb_R_resultOf 5 = .ok (.iaload, 1) := by decide +kernel
theorem zd_R_resultOf_6 : decode zb_R_resultOf 6 = .ok (.iconst 3, 1) := by decide +kernel
theorem zd_R_resultOf_7 : decode zb_R_resultOf 7 = .ok (.if_icmp .ne 7, 3) := by decide +kernel
theorem zd_R_resultOf_10 : decode zb_R_resultOf 10 = .ok (.lconst 1, 1) := by decide +kernel
theorem zd_R_resultOf_11 : decode zb_R_resultOf 11 = .ok (.goto 15, 3) := by decide +kernel
theorem zd_R_resultOf_14 : decode zb_R_resultOf 14 = .ok (.aload_n 0, 1) := by decide +kernel
theorem zd_R_resultOf_15 : decode zb_R_resultOf 15 = .ok (.getfield 13, 3) := by decide +kernel
theorem zd_R_resultOf_18 : decode zb_R_resultOf 18 = .ok (.iload_n 1, 1) := by decide +kernel
theorem zd_R_resultOf_19 : decode zb_R_resultOf 19 = .ok (.laload, 1) := by decide +kernel
theorem zd_R_resultOf_20 : decode zb_R_resultOf 20 = .ok (.aload_n 0, 1) := by decide +kernel
theorem zd_R_resultOf_21 : decode zb_R_resultOf 21 = .ok (.getfield 120, 3) := by decide +kernel
theorem zd_R_resultOf_24 : decode zb_R_resultOf 24 = .ok (.i2l, 1) := by decide +kernel
theorem zd_R_resultOf_25 : decode zb_R_resultOf 25 = .ok (.ladd, 1) := by decide +kernel
theorem zd_R_resultOf_26 : decode zb_R_resultOf 26 = .ok (.lstore_n 3, 1) := by decide +kernel
theorem zd_R_resultOf_27 : decode zb_R_resultOf 27 = .ok (.iconst 0, 1) := by decide +kernel
theorem zd_R_resultOf_28 : decode zb_R_resultOf 28 = .ok (.istore 5, 2) := by decide +kernel
theorem zd_R_resultOf_30 : decode zb_R_resultOf 30 = .ok (.iload 5, 2) := by decide +kernel
theorem zd_R_resultOf_32 : decode zb_R_resultOf 32 = .ok (.iconst 3, 1) := by decide +kernel
theorem zd_R_resultOf_33 : decode zb_R_resultOf 33 = .ok (.if_icmp .ge 110, 3) := by decide +kernel
theorem zd_R_resultOf_36 : decode zb_R_resultOf 36 = .ok (.iconst 0, 1) := by decide +kernel
theorem zd_R_resultOf_37 : decode zb_R_resultOf 37 = .ok (.istore 6, 2) := by decide +kernel
theorem zd_R_resultOf_39 : decode zb_R_resultOf 39 = .ok (.iload 6, 2) := by decide +kernel
theorem zd_R_resultOf_41 : decode zb_R_resultOf 41 = .ok (.aload_n 0, 1) := by decide +kernel
theorem zd_R_resultOf_42 : decode zb_R_resultOf 42 = .ok (.getfield 20, 3) := by decide +kernel
theorem zd_R_resultOf_45 : decode zb_R_resultOf 45 = .ok (.iconst 3, 1) := by decide +kernel
theorem zd_R_resultOf_46 : decode zb_R_resultOf 46 = .ok (.iload_n 1, 1) := by decide +kernel
theorem zd_R_resultOf_47 : decode zb_R_resultOf 47 = .ok (.imul, 1) := by decide +kernel
theorem zd_R_resultOf_48 : decode zb_R_resultOf 48 = .ok (.iload 5, 2) := by decide +kernel
theorem zd_R_resultOf_50 : decode zb_R_resultOf 50 = .ok (.iadd, 1) := by decide +kernel
theorem zd_R_resultOf_51 : decode zb_R_resultOf 51 = .ok (.iaload, 1) := by decide +kernel
theorem zd_R_resultOf_52 : decode zb_R_resultOf 52 = .ok (.if_icmp .ge 85, 3) := by decide +kernel
theorem zd_R_resultOf_55 : decode zb_R_resultOf 55 = .ok (.aload_n 0, 1) := by decide +kernel
theorem zd_R_resultOf_56 : decode zb_R_resultOf 56 = .ok (.getfield 29, 3) := by decide +kernel
theorem zd_R_resultOf_59 : decode zb_R_resultOf 59 = .ok (.iload_n 2, 1) := by decide +kernel
theorem zd_R_resultOf_60 : decode zb_R_resultOf 60 = .ok (.iaload, 1) := by decide +kernel
theorem zd_R_resultOf_61 : decode zb_R_resultOf 61 = .ok (.iload 5, 2) := by decide +kernel
theorem zd_R_resultOf_63 : decode zb_R_resultOf 63 = .ok (.ishr, 1) := by decide +kernel
theorem zd_R_resultOf_64 : decode zb_R_resultOf 64 = .ok (.iconst 1, 1) := by decide +kernel
theorem zd_R_resultOf_65 : decode zb_R_resultOf 65 = .ok (.iand, 1) := by decide +kernel
theorem zd_R_resultOf_66 : decode zb_R_resultOf 66 = .ok (.iconst 1, 1) := by decide +kernel
theorem zd_R_resultOf_67 : decode zb_R_resultOf 67 = .ok (.if_icmp .ne 70, 3) := by decide +kernel
theorem zd_R_resultOf_70 : decode zb_R_resultOf 70 = .ok (.aload_n 0, 1) := by decide +kernel
theorem zd_R_resultOf_71 : decode zb_R_resultOf 71 = .ok (.getfield 7, 3) := by decide +kernel
theorem zd_R_resultOf_74 : decode zb_R_resultOf 74 = .ok (.aload_n 0, 1) := by decide +kernel
theorem zd_R_resultOf_75 : decode zb_R_resultOf 75 = .ok (.getfield 23, 3) := by decide +kernel
theorem zd_R_resultOf_78 : decode zb_R_resultOf 78 = .ok (.bipush 12, 2) := by decide +kernel
theorem zd_R_resultOf_80 : decode zb_R_resultOf 80 = .ok (.iload_n 1, 1) := by decide +kernel
theorem zd_R_resultOf_81 : decode zb_R_resultOf 81 = .ok (.imul, 1) := by decide +kernel
theorem zd_R_resultOf_82 : decode zb_R_resultOf 82 = .ok (.iconst 4, 1) := by decide +kernel
theorem zd_R_resultOf_83 : decode zb_R_resultOf 83 = .ok (.iload 5, 2) := by decide +kernel
theorem zd_R_resultOf_85 : decode zb_R_resultOf 85 = .ok (.imul, 1) := by decide +kernel
theorem zd_R_resultOf_86 : decode zb_R_resultOf 86 = .ok (.iadd, 1) := by decide +kernel
theorem zd_R_resultOf_87 : decode zb_R_resultOf 87 = .ok (.iload 6, 2) := by decide +kernel
theorem zd_R_resultOf_89 : decode zb_R_resultOf 89 = .ok (.iadd, 1) := by decide +kernel
theorem zd_R_resultOf_90 : decode zb_R_resultOf 90 = .ok (.iaload, 1) := by decide +kernel
theorem zd_R_resultOf_91 : decode zb_R_resultOf 91 = .ok (.iaload, 1) := by decide +kernel
theorem zd_R_resultOf_92 : decode zb_R_resultOf 92 = .ok (.iload_n 2, 1) := by decide +kernel
theorem zd_R_resultOf_93 : decode zb_R_resultOf 93 = .ok (.aload_n 0, 1) := by decide +kernel
theorem zd_R_resultOf_94 : decode zb_R_resultOf 94 = .ok (.getfield 120, 3) := by decide +kernel
theorem zd_R_resultOf_97 : decode zb_R_resultOf 97 = .ok (.invokestatic 103, 3) := by decide +kernel
theorem zd_R_resultOf_100 : decode zb_R_resultOf 100 = .ok (.istore 7, 2) := by decide +kernel
theorem zd_R_resultOf_102 : decode zb_R_resultOf 102 = .ok (.aload_n 0, 1) := by decide +kernel
theorem zd_R_resultOf_103 : decode zb_R_resultOf 103 = .ok (.getfield 47, 3) := by decide +kernel
theorem zd_R_resultOf_106 : decode zb_R_resultOf 106 = .ok (.iload 7, 2) := by decide +kernel
theorem zd_R_resultOf_108 : decode zb_R_resultOf 108 = .ok (.iaload, 1) := by decide +kernel
theorem zd_R_resultOf_109 : decode zb_R_resultOf 109 = .ok (.iconst 2, 1) := by decide +kernel
theorem zd_R_resultOf_110 : decode zb_R_resultOf 110 = .ok (.if_icmp .ne 21, 3) := by decide +kernel
theorem zd_R_resultOf_113 : decode zb_R_resultOf 113 = .ok (.aload_n 0, 1) := by decide +kernel
theorem zd_R_resultOf_114 : decode zb_R_resultOf 114 = .ok (.getfield 26, 3) := by decide +kernel
theorem zd_R_resultOf_117 : decode zb_R_resultOf 117 = .ok (.iload_n 2, 1) := by decide +kernel
theorem zd_R_resultOf_118 : decode zb_R_resultOf 118 = .ok (.iaload, 1) := by decide +kernel
theorem zd_R_resultOf_119 : decode zb_R_resultOf 119 = .ok (.lload_n 3, 1) := by decide +kernel
theorem zd_R_resultOf_120 : decode zb_R_resultOf 120 = .ok (.aload_n 0, 1) := by decide +kernel
theorem zd_R_resultOf_121 : decode zb_R_resultOf 121 = .ok (.getfield 50, 3) := by decide +kernel
theorem zd_R_resultOf_124 : decode zb_R_resultOf 124 = .ok (.iload 7, 2) := by decide +kernel
theorem zd_R_resultOf_126 : decode zb_R_resultOf 126 = .ok (.laload, 1) := by decide +kernel
theorem zd_R_resultOf_127 : decode zb_R_resultOf 127 = .ok (.invokestatic 129, 3) := by decide +kernel
theorem zd_R_resultOf_130 : decode zb_R_resultOf 130 = .ok (.lstore_n 3, 1) := by decide +kernel
theorem zd_R_resultOf_131 : decode zb_R_resultOf 131 = .ok (.iinc 6 1, 3) := by decide +kernel
theorem zd_R_resultOf_134 : decode zb_R_resultOf 134 = .ok (.goto (-95), 3) := by decide +kernel
theorem zd_R_resultOf_137 : decode zb_R_resultOf 137 = .ok (.iinc 5 1, 3) := by decide +kernel
theorem zd_R_resultOf_140 : decode zb_R_resultOf 140 = .ok (.goto (-110), 3) := by decide +kernel
theorem zd_R_resultOf_143 : decode zb_R_resultOf 143 = .ok (.iconst 0, 1) := by decide +kernel
theorem zd_R_resultOf_144 : decode zb_R_resultOf 144 = .ok (.istore 5, 2) := by decide +kernel
theorem zd_R_resultOf_146 : decode zb_R_resultOf 146 = .ok (.iload 5, 2) := by decide +kernel
theorem zd_R_resultOf_148 : decode zb_R_resultOf 148 = .ok (.aload_n 0, 1) := by decide +kernel
theorem zd_R_resultOf_149 : decode zb_R_resultOf 149 = .ok (.getfield 41, 3) := by decide +kernel
theorem zd_R_resultOf_152 : decode zb_R_resultOf 152 = .ok (.iload_n 2, 1) := by decide +kernel
theorem zd_R_resultOf_153 : decode zb_R_resultOf 153 = .ok (.iaload, 1) := by decide +kernel
theorem zd_R_resultOf_154 : decode zb_R_resultOf 154 = .ok (.if_icmp .ge 69, 3) := by decide +kernel
theorem zd_R_resultOf_157 : decode zb_R_resultOf 157 = .ok (.aload_n 0, 1) := by decide +kernel
theorem zd_R_resultOf_158 : decode zb_R_resultOf 158 = .ok (.getfield 26, 3) := by decide +kernel
theorem zd_R_resultOf_161 : decode zb_R_resultOf 161 = .ok (.iload_n 2, 1) := by decide +kernel
theorem zd_R_resultOf_162 : decode zb_R_resultOf 162 = .ok (.iaload, 1) := by decide +kernel
theorem zd_R_resultOf_163 : decode zb_R_resultOf 163 = .ok (.iconst 3, 1) := by decide +kernel
theorem zd_R_resultOf_164 : decode zb_R_resultOf 164 = .ok (.if_icmp .eq 59, 3) := by decide +kernel
theorem zd_R_resultOf_167 : decode zb_R_resultOf 167 = .ok (.iload_n 1, 1) := by decide +kernel
theorem zd_R_resultOf_168 : decode zb_R_resultOf 168 = .ok (.aload_n 0, 1) := by decide +kernel
theorem zd_R_resultOf_169 : decode zb_R_resultOf 169 = .ok (.getfield 44, 3) := by decide +kernel
theorem zd_R_resultOf_172 : decode zb_R_resultOf 172 = .ok (.iconst 3, 1) := by decide +kernel
theorem zd_R_resultOf_173 : decode zb_R_resultOf 173 = .ok (.iload_n 2, 1) := by decide +kernel
theorem zd_R_resultOf_174 : decode zb_R_resultOf 174 = .ok (.imul, 1) := by decide +kernel
theorem zd_R_resultOf_175 : decode zb_R_resultOf 175 = .ok (.iload 5, 2) := by decide +kernel
theorem zd_R_resultOf_177 : decode zb_R_resultOf 177 = .ok (.iadd, 1) := by decide +kernel
theorem zd_R_resultOf_178 : decode zb_R_resultOf 178 = .ok (.iaload, 1) := by decide +kernel
theorem zd_R_resultOf_179 : decode zb_R_resultOf 179 = .ok (.aload_n 0, 1) := by decide +kernel
theorem zd_R_resultOf_180 : decode zb_R_resultOf 180 = .ok (.getfield 120, 3) := by decide +kernel
theorem zd_R_resultOf_183 : decode zb_R_resultOf 183 = .ok (.invokestatic 103, 3) := by decide +kernel
theorem zd_R_resultOf_186 : decode zb_R_resultOf 186 = .ok (.istore 6, 2) := by decide +kernel
theorem zd_R_resultOf_188 : decode zb_R_resultOf 188 = .ok (.aload_n 0, 1) := by decide +kernel
theorem zd_R_resultOf_189 : decode zb_R_resultOf 189 = .ok (.getfield 47, 3) := by decide +kernel
theorem zd_R_resultOf_192 : decode zb_R_resultOf 192 = .ok (.iload 6, 2) := by decide +kernel
theorem zd_R_resultOf_194 : decode zb_R_resultOf 194 = .ok (.iaload, 1) := by decide +kernel
theorem zd_R_resultOf_195 : decode zb_R_resultOf 195 = .ok (.iconst 2, 1) := by decide +kernel
theorem zd_R_resultOf_196 : decode zb_R_resultOf 196 = .ok (.if_icmp .ne 21, 3) := by decide +kernel
theorem zd_R_resultOf_199 : decode zb_R_resultOf 199 = .ok (.aload_n 0, 1) := by decide +kernel
theorem zd_R_resultOf_200 : decode zb_R_resultOf 200 = .ok (.getfield 26, 3) := by decide +kernel
theorem zd_R_resultOf_203 : decode zb_R_resultOf 203 = .ok (.iload_n 2, 1) := by decide +kernel
theorem zd_R_resultOf_204 : decode zb_R_resultOf 204 = .ok (.iaload, 1) := by decide +kernel
theorem zd_R_resultOf_205 : decode zb_R_resultOf 205 = .ok (.lload_n 3, 1) := by decide +kernel
theorem zd_R_resultOf_206 : decode zb_R_resultOf 206 = .ok (.aload_n 0, 1) := by decide +kernel
theorem zd_R_resultOf_207 : decode zb_R_resultOf 207 = .ok (.getfield 50, 3) := by decide +kernel
theorem zd_R_resultOf_210 : decode zb_R_resultOf 210 = .ok (.iload 6, 2) := by decide +kernel
theorem zd_R_resultOf_212 : decode zb_R_resultOf 212 = .ok (.laload, 1) := by decide +kernel
theorem zd_R_resultOf_213 : decode zb_R_resultOf 213 = .ok (.invokestatic 129, 3) := by decide +kernel
theorem zd_R_resultOf_216 : decode zb_R_resultOf 216 = .ok (.lstore_n 3, 1) := by decide +kernel
theorem zd_R_resultOf_217 : decode zb_R_resultOf 217 = .ok (.iinc 5 1, 3) := by decide +kernel
theorem zd_R_resultOf_220 : decode zb_R_resultOf 220 = .ok (.goto (-74), 3) := by decide +kernel
theorem zd_R_resultOf_223 : decode zb_R_resultOf 223 = .ok (.lload_n 3, 1) := by decide +kernel
theorem zd_R_resultOf_224 : decode zb_R_resultOf 224 = .ok (.lreturn, 1) := by decide +kernel
theorem zd_R_with_0 : decode zb_R_with 0 = .ok (.iload_n 0, 1) := by decide +kernel
theorem zd_R_with_1 : decode zb_R_with 1 = .ok (.iconst 1, 1) := by decide +kernel
theorem zd_R_with_2 : decode zb_R_with 2 = .ok (.if_icmp .ne 17, 3) := by decide +kernel
theorem zd_R_with_5 : decode zb_R_with 5 = .ok (.lload_n 3, 1) := by decide +kernel
theorem zd_R_with_6 : decode zb_R_with 6 = .ok (.lload_n 1, 1) := by decide +kernel
theorem zd_R_with_7 : decode zb_R_with 7 = .ok (.lcmp, 1) := by decide +kernel
theorem zd_R_with_8 : decode zb_R_with 8 = .ok (.ifCond .le 7, 3) := by decide +kernel
theorem zd_R_with_11 : decode zb_R_with 11 = .ok (.lload_n 3, 1) := by decide +kernel
theorem zd_R_with_12 : decode zb_R_with 12 = .ok (.goto 25, 3) := by decide +kernel
theorem zd_R_with_15 : decode zb_R_with 15 = .ok (.lload_n 1, 1) := by decide +kernel
theorem zd_R_with_16 : decode zb_R_with 16 = .ok (.goto 21, 3) := by decide +kernel
theorem zd_R_with_19 : decode zb_R_with 19 = .ok (.iload_n 0, 1) := by decide +kernel
theorem zd_R_with_20 : decode zb_R_with 20 = .ok (.iconst 2, 1) := by decide +kernel
theorem zd_R_with_21 : decode zb_R_with 21 = .ok (.if_icmp .ne 13, 3) := by decide +kernel
theorem zd_R_with_24 : decode zb_R_with 24 = .ok (.ldc2_w 127, 3) := by decide +kernel
theorem zd_R_with_27 : decode zb_R_with 27 = .ok (.lload_n 1, 1) := by decide +kernel
theorem zd_R_with_28 : decode zb_R_with 28 = .ok (.lmul, 1) := by decide +kernel
theorem zd_R_with_29 : decode zb_R_with 29 = .ok (.lload_n 3, 1) := by decide +kernel
theorem zd_R_with_30 : decode zb_R_with 30 = .ok (.ladd, 1) := by decide +kernel
theorem zd_R_with_31 : decode zb_R_with 31 = .ok (.goto 6, 3) := by decide +kernel
theorem zd_R_with_34 : decode zb_R_with 34 = .ok (.lload_n 1, 1) := by decide +kernel
theorem zd_R_with_35 : decode zb_R_with 35 = .ok (.lload_n 3, 1) := by decide +kernel
theorem zd_R_with_36 : decode zb_R_with 36 = .ok (.ladd, 1) := by decide +kernel
theorem zd_R_with_37 : decode zb_R_with 37 = .ok (.lreturn, 1) := by decide +kernel
theorem zd_R_clash_0 : decode zb_R_clash 0 = .ok (.aload_n 0, 1) := by decide +kernel
theorem zd_R_clash_1 : decode zb_R_clash 1 = .ok (.iconst 0, 1) := by decide +kernel
theorem zd_R_clash_2 : decode zb_R_clash 2 = .ok (.putfield 72, 3) := by decide +kernel
theorem zd_R_clash_5 : decode zb_R_clash 5 = .ok (.iload_n 1, 1) := by decide +kernel
theorem zd_R_clash_6 : decode zb_R_clash 6 = .ok (.ifCond .lt 17, 3) := by decide +kernel
theorem zd_R_clash_9 : decode zb_R_clash 9 = .ok (.iload_n 1, 1) := by decide +kernel
theorem zd_R_clash_10 : decode zb_R_clash 10 = .ok (.iconst 5, 1) := by decide +kernel
theorem zd_R_clash_11 : decode zb_R_clash 11 = .ok (.if_icmp .ge 12, 3) := by decide +kernel
theorem zd_R_clash_14 : decode zb_R_clash 14 = .ok (.aload_n 0, 1) := by decide +kernel
theorem zd_R_clash_15 : decode zb_R_clash 15 = .ok (.getfield 59, 3) := by decide +kernel
theorem zd_R_clash_18 : decode zb_R_clash 18 = .ok (.iload_n 1, 1) := by decide +kernel
theorem zd_R_clash_19 : decode zb_R_clash 19 = .ok (.iaload, 1) := by decide +kernel
theorem zd_R_clash_20 : decode zb_R_clash 20 = .ok (.goto 4, 3) := by decide +kernel
theorem zd_R_clash_23 : decode zb_R_clash 23 = .ok (.iconst (-1), 1) := by decide +kernel
theorem zd_R_clash_24 : decode zb_R_clash 24 = .ok (.ireturn, 1) := by decide +kernel
theorem zd_R_state_0 : decode zb_R_state 0 = .ok (.aload_n 0, 1) := by decide +kernel
theorem zd_R_state_1 : decode zb_R_state 1 = .ok (.iconst 0, 1) := by decide +kernel
theorem zd_R_state_2 : decode zb_R_state 2 = .ok (.putfield 72, 3) := by decide +kernel
theorem zd_R_state_5 : decode zb_R_state 5 = .ok (.aload_n 0, 1) := by decide +kernel
theorem zd_R_state_6 : decode zb_R_state 6 = .ok (.iload_n 1, 1) := by decide +kernel
theorem zd_R_state_7 : decode zb_R_state 7 = .ok (.invokevirtual 82, 3) := by decide +kernel
theorem zd_R_state_10 : decode zb_R_state 10 = .ok (.ifCond .eq 18, 3) := by decide +kernel
theorem zd_R_state_13 : decode zb_R_state 13 = .ok (.aload_n 0, 1) := by decide +kernel
theorem zd_R_state_14 : decode zb_R_state 14 = .ok (.iload_n 2, 1) := by decide +kernel
theorem zd_R_state_15 : decode zb_R_state 15 = .ok (.invokevirtual 107, 3) := by decide +kernel
theorem zd_R_state_18 : decode zb_R_state 18 = .ok (.ifCond .eq 10, 3) := by decide +kernel
theorem zd_R_state_21 : decode zb_R_state 21 = .ok (.iload_n 3, 1) := by decide +kernel
theorem zd_R_state_22 : decode zb_R_state 22 = .ok (.invokestatic 153, 3) := by decide +kernel
theorem zd_R_state_25 : decode zb_R_state 25 = .ok (.ifCond .ne 5, 3) := by decide +kernel
theorem zd_R_state_28 : decode zb_R_state 28 = .ok (.iconst (-1), 1) := by decide +kernel
theorem zd_R_state_29 : decode zb_R_state 29 = .ok (.ireturn, 1) := by decide +kernel
theorem zd_R_state_30 : decode zb_R_state 30 = .ok (.aload_n 0, 1) := by decide +kernel
theorem zd_R_state_31 : decode zb_R_state 31 = .ok (.getfield 47, 3) := by decide +kernel
theorem zd_R_state_34 : decode zb_R_state 34 = .ok (.aload_n 0, 1) := by decide +kernel
theorem zd_R_state_35 : decode zb_R_state 35 = .ok (.getfield 7, 3) := by decide +kernel
theorem zd_R_state_38 : decode zb_R_state 38 = .ok (.iload_n 1, 1) := by decide +kernel
theorem zd_R_state_39 : decode zb_R_state 39 = .ok (.iaload, 1) := by decide +kernel
theorem zd_R_state_40 : decode zb_R_state 40 = .ok (.iload_n 2, 1) := by decide +kernel
theorem zd_R_state_41 : decode zb_R_state 41 = .ok (.iload_n 3, 1) := by decide +kernel
theorem zd_R_state_42 : decode zb_R_state 42 = .ok (.invokestatic 103, 3) := by decide +kernel
theorem zd_R_state_45 : decode zb_R_state 45 = .ok (.iaload, 1) := by decide +kernel
theorem zd_R_state_46 : decode zb_R_state 46 = .ok (.iconst 1, 1) := by decide +kernel
theorem zd_R_state_47 : decode zb_R_state 47 = .ok (.isub, 1) := by decide +kernel
theorem zd_R_state_48 : decode zb_R_state 48 = .ok (.ireturn, 1) := by decide +kernel
theorem zd_R_result_0 : decode zb_R_result 0 = .ok (.aload_n 0, 1) := by decide +kernel
theorem zd_R_result_1 : decode zb_R_result 1 = .ok (.aload_n 0, 1) := by decide +kernel
theorem zd_R_result_2 : decode zb_R_result 2 = .ok (.iload_n 1, 1) := by decide +kernel
theorem zd_R_result_3 : decode zb_R_result 3 = .ok (.invokevirtual 82, 3) := by decide +kernel
theorem zd_R_result_6 : decode zb_R_result 6 = .ok (.ifCond .eq 18, 3) := by decide +kernel
theorem zd_R_result_9 : decode zb_R_result 9 = .ok (.aload_n 0, 1) := by decide +kernel
theorem zd_R_result_10 : decode zb_R_result 10 = .ok (.iload_n 2, 1) := by decide +kernel
theorem zd_R_result_11 : decode zb_R_result 11 = .ok (.invokevirtual 107, 3) := by decide +kernel
theorem zd_R_result_14 : decode zb_R_result 14 = .ok (.ifCond .eq 10, 3) := by decide +kernel
theorem zd_R_result_17 : decode zb_R_result 17 = .ok (.iload_n 3, 1) := by decide +kernel
theorem zd_R_result_18 : decode zb_R_result 18 = .ok (.invokestatic 153, 3) := by decide +kernel
theorem zd_R_result_21 : decode zb_R_result 21 = .ok (.ifCond .ne 7, 3) := by decide +kernel
theorem zd_R_result_24 : decode zb_R_result 24 = .ok (.iconst 1, 1) := by decide +kernel
theorem zd_R_result_25 : decode zb_R_result 25 = .ok (.goto 28, 3) := by decide +kernel
theorem zd_R_result_28 : decode zb_R_result 28 = .ok (.aload_n 0, 1) := by decide +kernel
