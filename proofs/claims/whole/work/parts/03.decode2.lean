theorem zd_W_makeOutput_65 : decode zb_W_makeOutput 65 = .ok (.getfield 30, 3) := by decide +kernel
theorem zd_W_makeOutput_68 : decode zb_W_makeOutput 68 = .ok (.iconst 2, 1) := by decide +kernel
theorem zd_W_makeOutput_69 : decode zb_W_makeOutput 69 = .ok (.iload_n 3, 1) := by decide +kernel
theorem zd_W_makeOutput_70 : decode zb_W_makeOutput 70 = .ok (.iastore, 1) := by decide +kernel
theorem zd_W_makeOutput_71 : decode zb_W_makeOutput 71 = .ok (.aload_n 0, 1) := by decide +kernel
theorem zd_W_makeOutput_72 : decode zb_W_makeOutput 72 = .ok (.getfield 30, 3) := by decide +kernel
theorem zd_W_makeOutput_75 : decode zb_W_makeOutput 75 = .ok (.iconst 3, 1) := by decide +kernel
theorem zd_W_makeOutput_76 : decode zb_W_makeOutput 76 = .ok (.iload 5, 2) := by decide +kernel
theorem zd_W_makeOutput_78 : decode zb_W_makeOutput 78 = .ok (.iastore, 1) := by decide +kernel
theorem zd_W_makeOutput_79 : decode zb_W_makeOutput 79 = .ok (.aload_n 0, 1) := by decide +kernel
theorem zd_W_makeOutput_80 : decode zb_W_makeOutput 80 = .ok (.getfield 30, 3) := by decide +kernel
theorem zd_W_makeOutput_83 : decode zb_W_makeOutput 83 = .ok (.iconst 4, 1) := by decide +kernel
theorem zd_W_makeOutput_84 : decode zb_W_makeOutput 84 = .ok (.aload_n 0, 1) := by decide +kernel
theorem zd_W_makeOutput_85 : decode zb_W_makeOutput 85 = .ok (.getfield 26, 3) := by decide +kernel
theorem zd_W_makeOutput_88 : decode zb_W_makeOutput 88 = .ok (.iload_n 1, 1) := by decide +kernel
theorem zd_W_makeOutput_89 : decode zb_W_makeOutput 89 = .ok (.iload 4, 2) := by decide +kernel
theorem zd_W_makeOutput_91 : decode zb_W_makeOutput 91 = .ok (.invokevirtual 183, 3) := by decide +kernel
theorem zd_W_makeOutput_94 : decode zb_W_makeOutput 94 = .ok (.iastore, 1) := by decide +kernel
theorem zd_W_makeOutput_95 : decode zb_W_makeOutput 95 = .ok (.iconst 0, 1) := by decide +kernel
theorem zd_W_makeOutput_96 : decode zb_W_makeOutput 96 = .ok (.ireturn, 1) := by decide +kernel
theorem zd_M_keepMaker_0 : decode zb_M_keepMaker 0 = .ok (.aload_n 0, 1) := by decide +kernel
theorem zd_M_keepMaker_1 : decode zb_M_keepMaker 1 = .ok (.getfield 25, 3) := by decide +kernel
theorem zd_M_keepMaker_4 : decode zb_M_keepMaker 4 = .ok (.iload_n 1, 1) := by decide +kernel
theorem zd_M_keepMaker_5 : decode zb_M_keepMaker 5 = .ok (.bipush 10, 2) := by decide +kernel
theorem zd_M_keepMaker_7 : decode zb_M_keepMaker 7 = .ok (.imul, 1) := by decide +kernel
theorem zd_M_keepMaker_8 : decode zb_M_keepMaker 8 = .ok (.iload_n 2, 1) := by decide +kernel
theorem zd_M_keepMaker_9 : decode zb_M_keepMaker 9 = .ok (.iadd, 1) := by decide +kernel
theorem zd_M_keepMaker_10 : decode zb_M_keepMaker 10 = .ok (.iload_n 3, 1) := by decide +kernel
theorem zd_M_keepMaker_11 : decode zb_M_keepMaker 11 = .ok (.iastore, 1) := by decide +kernel
theorem zd_M_keepMaker_12 : decode zb_M_keepMaker 12 = .ok (.aload_n 0, 1) := by decide +kernel
theorem zd_M_keepMaker_13 : decode zb_M_keepMaker 13 = .ok (.getfield 28, 3) := by decide +kernel
theorem zd_M_keepMaker_16 : decode zb_M_keepMaker 16 = .ok (.iload_n 1, 1) := by decide +kernel
theorem zd_M_keepMaker_17 : decode zb_M_keepMaker 17 = .ok (.bipush 10, 2) := by decide +kernel
theorem zd_M_keepMaker_19 : decode zb_M_keepMaker 19 = .ok (.imul, 1) := by decide +kernel
theorem zd_M_keepMaker_20 : decode zb_M_keepMaker 20 = .ok (.iload_n 2, 1) := by decide +kernel
theorem zd_M_keepMaker_21 : decode zb_M_keepMaker 21 = .ok (.iadd, 1) := by decide +kernel
theorem zd_M_keepMaker_22 : decode zb_M_keepMaker 22 = .ok (.iload 4, 2) := by decide +kernel
theorem zd_M_keepMaker_24 : decode zb_M_keepMaker 24 = .ok (.iastore, 1) := by decide +kernel
theorem zd_M_keepMaker_25 : decode zb_M_keepMaker 25 = .ok (.return_, 1) := by decide +kernel
theorem zd_M_makerSettingOf_0 : decode zb_M_makerSettingOf 0 = .ok (.aload_n 0, 1) := by decide +kernel
theorem zd_M_makerSettingOf_1 : decode zb_M_makerSettingOf 1 = .ok (.getfield 28, 3) := by decide +kernel
theorem zd_M_makerSettingOf_4 : decode zb_M_makerSettingOf 4 = .ok (.iload_n 1, 1) := by decide +kernel
theorem zd_M_makerSettingOf_5 : decode zb_M_makerSettingOf 5 = .ok (.bipush 10, 2) := by decide +kernel
theorem zd_M_makerSettingOf_7 : decode zb_M_makerSettingOf 7 = .ok (.imul, 1) := by decide +kernel
theorem zd_M_makerSettingOf_8 : decode zb_M_makerSettingOf 8 = .ok (.iload_n 2, 1) := by decide +kernel
theorem zd_M_makerSettingOf_9 : decode zb_M_makerSettingOf 9 = .ok (.iadd, 1) := by decide +kernel
theorem zd_M_makerSettingOf_10 : decode zb_M_makerSettingOf 10 = .ok (.iaload, 1) := by decide +kernel
theorem zd_M_makerSettingOf_11 : decode zb_M_makerSettingOf 11 = .ok (.ireturn, 1) := by decide +kernel
theorem zd_W_joined_0 : decode zb_W_joined 0 = .ok (.aload_n 0, 1) := by decide +kernel
theorem zd_W_joined_1 : decode zb_W_joined 1 = .ok (.getfield 19, 3) := by decide +kernel
theorem zd_W_joined_4 : decode zb_W_joined 4 = .ok (.iload_n 2, 1) := by decide +kernel
theorem zd_W_joined_5 : decode zb_W_joined 5 = .ok (.invokevirtual 186, 3) := by decide +kernel
theorem zd_W_joined_8 : decode zb_W_joined 8 = .ok (.istore 4, 2) := by decide +kernel
theorem zd_W_joined_10 : decode zb_W_joined 10 = .ok (.iload 4, 2) := by decide +kernel
theorem zd_W_joined_12 : decode zb_W_joined 12 = .ok (.iconst 3, 1) := by decide +kernel
theorem zd_W_joined_13 : decode zb_W_joined 13 = .ok (.if_icmp .ne 7, 3) := by decide +kernel
theorem zd_W_joined_16 : decode zb_W_joined 16 = .ok (.lconst 1, 1) := by decide +kernel
theorem zd_W_joined_17 : decode zb_W_joined 17 = .ok (.goto 14, 3) := by decide +kernel
theorem zd_W_joined_20 : decode zb_W_joined 20 = .ok (.aload_n 0, 1) := by decide +kernel
theorem zd_W_joined_21 : decode zb_W_joined 21 = .ok (.getfield 12, 3) := by decide +kernel
theorem zd_W_joined_24 : decode zb_W_joined 24 = .ok (.iload_n 1, 1) := by decide +kernel
theorem zd_W_joined_25 : decode zb_W_joined 25 = .ok (.invokevirtual 189, 3) := by decide +kernel
theorem zd_W_joined_28 : decode zb_W_joined 28 = .ok (.iload_n 3, 1) := by decide +kernel
theorem zd_W_joined_29 : decode zb_W_joined 29 = .ok (.i2l, 1) := by decide +kernel
theorem zd_W_joined_30 : decode zb_W_joined 30 = .ok (.ladd, 1) := by decide +kernel
theorem zd_W_joined_31 : decode zb_W_joined 31 = .ok (.lstore 5, 2) := by decide +kernel
theorem zd_W_joined_33 : decode zb_W_joined 33 = .ok (.aload_n 0, 1) := by decide +kernel
theorem zd_W_joined_34 : decode zb_W_joined 34 = .ok (.lload 5, 2) := by decide +kernel
theorem zd_W_joined_36 : decode zb_W_joined 36 = .ok (.iload_n 1, 1) := by decide +kernel
theorem zd_W_joined_37 : decode zb_W_joined 37 = .ok (.iload_n 2, 1) := by decide +kernel
theorem zd_W_joined_38 : decode zb_W_joined 38 = .ok (.iload_n 3, 1) := by decide +kernel
theorem zd_W_joined_39 : decode zb_W_joined 39 = .ok (.invokevirtual 193, 3) := by decide +kernel
theorem zd_W_joined_42 : decode zb_W_joined 42 = .ok (.lstore 7, 2) := by decide +kernel
theorem zd_W_joined_44 : decode zb_W_joined 44 = .ok (.iload 4, 2) := by decide +kernel
theorem zd_W_joined_46 : decode zb_W_joined 46 = .ok (.iconst 3, 1) := by decide +kernel
theorem zd_W_joined_47 : decode zb_W_joined 47 = .ok (.if_icmp .ne 8, 3) := by decide +kernel
theorem zd_W_joined_50 : decode zb_W_joined 50 = .ok (.lload 7, 2) := by decide +kernel
theorem zd_W_joined_52 : decode zb_W_joined 52 = .ok (.goto 12, 3) := by decide +kernel
theorem zd_W_joined_55 : decode zb_W_joined 55 = .ok (.aload_n 0, 1) := by decide +kernel
theorem zd_W_joined_56 : decode zb_W_joined 56 = .ok (.lload 7, 2) := by decide +kernel
theorem zd_W_joined_58 : decode zb_W_joined 58 = .ok (.iload_n 1, 1) := by decide +kernel
theorem zd_W_joined_59 : decode zb_W_joined 59 = .ok (.iload_n 2, 1) := by decide +kernel
theorem zd_W_joined_60 : decode zb_W_joined 60 = .ok (.iload_n 3, 1) := by decide +kernel
theorem zd_W_joined_61 : decode zb_W_joined 61 = .ok (.invokevirtual 197, 3) := by decide +kernel
theorem zd_W_joined_64 : decode zb_W_joined 64 = .ok (.lreturn, 1) := by decide +kernel
theorem zd_A_kindOf_0 : decode zb_A_kindOf 0 = .ok (.aload_n 0, 1) := by decide +kernel
theorem zd_A_kindOf_1 : decode zb_A_kindOf 1 = .ok (.getfield 9, 3) := by decide +kernel
theorem zd_A_kindOf_4 : decode zb_A_kindOf 4 = .ok (.iload_n 1, 1) := by decide +kernel
theorem zd_A_kindOf_5 : decode zb_A_kindOf 5 = .ok (.iaload, 1) := by decide +kernel
theorem zd_A_kindOf_6 : decode zb_A_kindOf 6 = .ok (.ireturn, 1) := by decide +kernel
theorem zd_T_valueOf_0 : decode zb_T_valueOf 0 = .ok (.aload_n 0, 1) := by decide +kernel
theorem zd_T_valueOf_1 : decode zb_T_valueOf 1 = .ok (.getfield 9, 3) := by decide +kernel
theorem zd_T_valueOf_4 : decode zb_T_valueOf 4 = .ok (.iload_n 1, 1) := by decide +kernel
theorem zd_T_valueOf_5 : decode zb_T_valueOf 5 = .ok (.laload, 1) := by decide +kernel
theorem zd_T_valueOf_6 : decode zb_T_valueOf 6 = .ok (.lreturn, 1) := by decide +kernel
theorem zd_W_joinBelow_0 : decode zb_W_joinBelow 0 = .ok (.aload_n 0, 1) := by decide +kernel
theorem zd_W_joinBelow_1 : decode zb_W_joinBelow 1 = .ok (.getfield 19, 3) := by decide +kernel
theorem zd_W_joinBelow_4 : decode zb_W_joinBelow 4 = .ok (.iload 4, 2) := by decide +kernel
theorem zd_W_joinBelow_6 : decode zb_W_joinBelow 6 = .ok (.invokevirtual 186, 3) := by decide +kernel
theorem zd_W_joinBelow_9 : decode zb_W_joinBelow 9 = .ok (.istore 6, 2) := by decide +kernel
theorem zd_W_joinBelow_11 : decode zb_W_joinBelow 11 = .ok (.lload_n 1, 1) := by decide +kernel
theorem zd_W_joinBelow_12 : decode zb_W_joinBelow 12 = .ok (.lstore 7, 2) := by decide +kernel
theorem zd_W_joinBelow_14 : decode zb_W_joinBelow 14 = .ok (.iconst 0, 1) := by decide +kernel
theorem zd_W_joinBelow_15 : decode zb_W_joinBelow 15 = .ok (.istore 9, 2) := by decide +kernel
theorem zd_W_joinBelow_17 : decode zb_W_joinBelow 17 = .ok (.iload 9, 2) := by decide +kernel
theorem zd_W_joinBelow_19 : decode zb_W_joinBelow 19 = .ok (.iconst 3, 1) := by decide +kernel
theorem zd_W_joinBelow_20 : decode zb_W_joinBelow 20 = .ok (.if_icmp .ge 66, 3) := by decide +kernel
theorem zd_W_joinBelow_23 : decode zb_W_joinBelow 23 = .ok (.aload_n 0, 1) := by decide +kernel
theorem zd_W_joinBelow_24 : decode zb_W_joinBelow 24 = .ok (.iload_n 3, 1) := by decide +kernel
theorem zd_W_joinBelow_25 : decode zb_W_joinBelow 25 = .ok (.iload 4, 2) := by decide +kernel
theorem zd_W_joinBelow_27 : decode zb_W_joinBelow 27 = .ok (.iload 9, 2) := by decide +kernel
theorem zd_W_joinBelow_29 : decode zb_W_joinBelow 29 = .ok (.invokevirtual 155, 3) := by decide +kernel
theorem zd_W_joinBelow_32 : decode zb_W_joinBelow 32 = .ok (.istore 10, 2) := by decide +kernel
theorem zd_W_joinBelow_34 : decode zb_W_joinBelow 34 = .ok (.iconst 0, 1) := by decide +kernel
theorem zd_W_joinBelow_35 : decode zb_W_joinBelow 35 = .ok (.istore 11, 2) := by decide +kernel
theorem zd_W_joinBelow_37 : decode zb_W_joinBelow 37 = .ok (.iload 11, 2) := by decide +kernel
theorem zd_W_joinBelow_39 : decode zb_W_joinBelow 39 = .ok (.iload 10, 2) := by decide +kernel
theorem zd_W_joinBelow_41 : decode zb_W_joinBelow 41 = .ok (.if_icmp .ge 39, 3) := by decide +kernel
theorem zd_W_joinBelow_44 : decode zb_W_joinBelow 44 = .ok (.aload_n 0, 1) := by decide +kernel
theorem zd_W_joinBelow_45 : decode zb_W_joinBelow 45 = .ok (.getfield 12, 3) := by decide +kernel
theorem zd_W_joinBelow_48 : decode zb_W_joinBelow 48 = .ok (.iload_n 3, 1) := by decide +kernel
theorem zd_W_joinBelow_49 : decode zb_W_joinBelow 49 = .ok (.iload 9, 2) := by decide +kernel
theorem zd_W_joinBelow_51 : decode zb_W_joinBelow 51 = .ok (.iload 11, 2) := by decide +kernel
theorem zd_W_joinBelow_53 : decode zb_W_joinBelow 53 = .ok (.invokevirtual 158, 3) := by decide +kernel
theorem zd_W_joinBelow_56 : decode zb_W_joinBelow 56 = .ok (.istore 12, 2) := by decide +kernel
theorem zd_W_joinBelow_58 : decode zb_W_joinBelow 58 = .ok (.aload_n 0, 1) := by decide +kernel
theorem zd_W_joinBelow_59 : decode zb_W_joinBelow 59 = .ok (.iload 6, 2) := by decide +kernel
theorem zd_W_joinBelow_61 : decode zb_W_joinBelow 61 = .ok (.lload 7, 2) := by decide +kernel
theorem zd_W_joinBelow_63 : decode zb_W_joinBelow 63 = .ok (.iload 12, 2) := by decide +kernel
theorem zd_W_joinBelow_65 : decode zb_W_joinBelow 65 = .ok (.iload 4, 2) := by decide +kernel
theorem zd_W_joinBelow_67 : decode zb_W_joinBelow 67 = .ok (.iload 5, 2) := by decide +kernel
theorem zd_W_joinBelow_69 : decode zb_W_joinBelow 69 = .ok (.invokevirtual 200, 3) := by decide +kernel
theorem zd_W_joinBelow_72 : decode zb_W_joinBelow 72 = .ok (.lstore 7, 2) := by decide +kernel
theorem zd_W_joinBelow_74 : decode zb_W_joinBelow 74 = .ok (.iinc 11 1, 3) := by decide +kernel
theorem zd_W_joinBelow_77 : decode zb_W_joinBelow 77 = .ok (.goto (-40), 3) := by decide +kernel
theorem zd_W_joinBelow_80 : decode zb_W_joinBelow 80 = .ok (.iinc 9 1, 3) := by decide +kernel
theorem zd_W_joinBelow_83 : decode zb_W_joinBelow 83 = .ok (.goto (-66), 3) := by decide +kernel
theorem zd_W_joinBelow_86 : decode zb_W_joinBelow 86 = .ok (.lload 7, 2) := by decide +kernel
theorem zd_W_joinBelow_88 : decode zb_W_joinBelow 88 = .ok (.lreturn, 1) := by decide +kernel
theorem zd_W_joinPart_0 : decode zb_W_joinPart 0 = .ok (.aload_n 0, 1) := by decide +kernel
theorem zd_W_joinPart_1 : decode zb_W_joinPart 1 = .ok (.getfield 26, 3) := by decide +kernel
theorem zd_W_joinPart_4 : decode zb_W_joinPart 4 = .ok (.iload 4, 2) := by decide +kernel
theorem zd_W_joinPart_6 : decode zb_W_joinPart 6 = .ok (.iload 5, 2) := by decide +kernel
theorem zd_W_joinPart_8 : decode zb_W_joinPart 8 = .ok (.iload 6, 2) := by decide +kernel
theorem zd_W_joinPart_10 : decode zb_W_joinPart 10 = .ok (.invokevirtual 98, 3) := by decide +kernel
theorem zd_W_joinPart_13 : decode zb_W_joinPart 13 = .ok (.iconst 1, 1) := by decide +kernel
theorem zd_W_joinPart_14 : decode zb_W_joinPart 14 = .ok (.if_icmp .eq 5, 3) := by decide +kernel
theorem zd_W_joinPart_17 : decode zb_W_joinPart 17 = .ok (.lload_n 2, 1) := by decide +kernel
theorem zd_W_joinPart_18 : decode zb_W_joinPart 18 = .ok (.lreturn, 1) := by decide +kernel
theorem zd_W_joinPart_19 : decode zb_W_joinPart 19 = .ok (.aload_n 0, 1) := by decide +kernel
theorem zd_W_joinPart_20 : decode zb_W_joinPart 20 = .ok (.getfield 26, 3) := by decide +kernel
theorem zd_W_joinPart_23 : decode zb_W_joinPart 23 = .ok (.iload 4, 2) := by decide +kernel
theorem zd_W_joinPart_25 : decode zb_W_joinPart 25 = .ok (.iload 5, 2) := by decide +kernel
theorem zd_W_joinPart_27 : decode zb_W_joinPart 27 = .ok (.iload 6, 2) := by decide +kernel
theorem zd_W_joinPart_29 : decode zb_W_joinPart 29 = .ok (.invokevirtual 114, 3) := by decide +kernel
theorem zd_W_joinPart_32 : decode zb_W_joinPart 32 = .ok (.lstore 7, 2) := by decide +kernel
theorem zd_W_joinPart_34 : decode zb_W_joinPart 34 = .ok (.iload_n 1, 1) := by decide +kernel
theorem zd_W_joinPart_35 : decode zb_W_joinPart 35 = .ok (.lookupswitch 41 #[(1, 25), (2, 32)], 25) := by decide +kernel
theorem zd_W_joinPart_60 : decode zb_W_joinPart 60 = .ok (.lload_n 2, 1) := by decide +kernel
theorem zd_W_joinPart_61 : decode zb_W_joinPart 61 = .ok (.lload 7, 2) := by decide +kernel
theorem zd_W_joinPart_63 : decode zb_W_joinPart 63 = .ok (.invokestatic 204, 3) := by decide +kernel
theorem zd_W_joinPart_66 : decode zb_W_joinPart 66 = .ok (.lreturn, 1) := by decide +kernel
theorem zd_W_joinPart_67 : decode zb_W_joinPart 67 = .ok (.ldc2_w 210, 3) := by decide +kernel
theorem zd_W_joinPart_70 : decode zb_W_joinPart 70 = .ok (.lload_n 2, 1) := by decide +kernel
theorem zd_W_joinPart_71 : decode zb_W_joinPart 71 = .ok (.lmul, 1) := by decide +kernel
theorem zd_W_joinPart_72 : decode zb_W_joinPart 72 = .ok (.lload 7, 2) := by decide +kernel
theorem zd_W_joinPart_74 : decode zb_W_joinPart 74 = .ok (.ladd, 1) := by decide +kernel
theorem zd_W_joinPart_75 : decode zb_W_joinPart 75 = .ok (.lreturn, 1) := by decide +kernel
theorem zd_W_joinPart_76 : decode zb_W_joinPart 76 = .ok (.lload_n 2, 1) := by decide +kernel
theorem zd_W_joinPart_77 : decode zb_W_joinPart 77 = .ok (.lload 7, 2) := by decide +kernel
theorem zd_W_joinPart_79 : decode zb_W_joinPart 79 = .ok (.ladd, 1) := by decide +kernel
theorem zd_W_joinPart_80 : decode zb_W_joinPart 80 = .ok (.lreturn, 1) := by decide +kernel
theorem zd_M_resultOf_0 : decode zb_M_resultOf 0 = .ok (.aload_n 0, 1) := by decide +kernel
theorem zd_M_resultOf_1 : decode zb_M_resultOf 1 = .ok (.getfield 21, 3) := by decide +kernel
theorem zd_M_resultOf_4 : decode zb_M_resultOf 4 = .ok (.iload_n 1, 1) := by decide +kernel
theorem zd_M_resultOf_5 : decode zb_M_resultOf 5 = .ok (.iload_n 2, 1) := by decide +kernel
theorem zd_M_resultOf_6 : decode zb_M_resultOf 6 = .ok (.invokestatic 37, 3) := by decide +kernel
theorem zd_M_resultOf_9 : decode zb_M_resultOf 9 = .ok (.bipush 16, 2) := by decide +kernel
theorem zd_M_resultOf_11 : decode zb_M_resultOf 11 = .ok (.imul, 1) := by decide +kernel
theorem zd_M_resultOf_12 : decode zb_M_resultOf 12 = .ok (.iload_n 3, 1) := by decide +kernel
theorem zd_M_resultOf_13 : decode zb_M_resultOf 13 = .ok (.iadd, 1) := by decide +kernel
theorem zd_M_resultOf_14 : decode zb_M_resultOf 14 = .ok (.laload, 1) := by decide +kernel
theorem zd_M_resultOf_15 : decode zb_M_resultOf 15 = .ok (.lreturn, 1) := by decide +kernel
theorem zd_Jm_max_0 : decode zb_Jm_max 0 = .ok (.lload_n 0, 1) := by decide +kernel
theorem zd_Jm_max_1 : decode zb_Jm_max 1 = .ok (.lload_n 2, 1) := by decide +kernel
theorem zd_Jm_max_2 : decode zb_Jm_max 2 = .ok (.lcmp, 1) := by decide +kernel
theorem zd_Jm_max_3 : decode zb_Jm_max 3 = .ok (.ifCond .lt 7, 3) := by decide +kernel
theorem zd_Jm_max_6 : decode zb_Jm_max 6 = .ok (.lload_n 0, 1) := by decide +kernel
theorem zd_Jm_max_7 : decode zb_Jm_max 7 = .ok (.goto 4, 3) := by decide +kernel
theorem zd_Jm_max_10 : decode zb_Jm_max 10 = .ok (.lload_n 2, 1) := by decide +kernel
theorem zd_Jm_max_11 : decode zb_Jm_max 11 = .ok (.lreturn, 1) := by decide +kernel
theorem zd_W_joinNeeds_0 : decode zb_W_joinNeeds 0 = .ok (.aload_n 0, 1) := by decide +kernel
theorem zd_W_joinNeeds_1 : decode zb_W_joinNeeds 1 = .ok (.getfield 19, 3) := by decide +kernel
theorem zd_W_joinNeeds_4 : decode zb_W_joinNeeds 4 = .ok (.iload 4, 2) := by decide +kernel
theorem zd_W_joinNeeds_6 : decode zb_W_joinNeeds 6 = .ok (.invokevirtual 186, 3) := by decide +kernel
theorem zd_W_joinNeeds_9 : decode zb_W_joinNeeds 9 = .ok (.istore 6, 2) := by decide +kernel
theorem zd_W_joinNeeds_11 : decode zb_W_joinNeeds 11 = .ok (.lload_n 1, 1) := by decide +kernel
theorem zd_W_joinNeeds_12 : decode zb_W_joinNeeds 12 = .ok (.lstore 7, 2) := by decide +kernel
theorem zd_W_joinNeeds_14 : decode zb_W_joinNeeds 14 = .ok (.iconst 0, 1) := by decide +kernel
theorem zd_W_joinNeeds_15 : decode zb_W_joinNeeds 15 = .ok (.istore 9, 2) := by decide +kernel
theorem zd_W_joinNeeds_17 : decode zb_W_joinNeeds 17 = .ok (.iload 9, 2) := by decide +kernel
theorem zd_W_joinNeeds_19 : decode zb_W_joinNeeds 19 = .ok (.aload_n 0, 1) := by decide +kernel
theorem zd_W_joinNeeds_20 : decode zb_W_joinNeeds 20 = .ok (.getfield 19, 3) := by decide +kernel
theorem zd_W_joinNeeds_23 : decode zb_W_joinNeeds 23 = .ok (.iload 4, 2) := by decide +kernel
theorem zd_W_joinNeeds_25 : decode zb_W_joinNeeds 25 = .ok (.invokevirtual 78, 3) := by decide +kernel
theorem zd_W_joinNeeds_28 : decode zb_W_joinNeeds 28 = .ok (.if_icmp .ge 33, 3) := by decide +kernel
theorem zd_W_joinNeeds_31 : decode zb_W_joinNeeds 31 = .ok (.aload_n 0, 1) := by decide +kernel
theorem zd_W_joinNeeds_32 : decode zb_W_joinNeeds 32 = .ok (.iload 6, 2) := by decide +kernel
theorem zd_W_joinNeeds_34 : decode zb_W_joinNeeds 34 = .ok (.lload 7, 2) := by decide +kernel
theorem zd_W_joinNeeds_36 : decode zb_W_joinNeeds 36 = .ok (.iload_n 3, 1) := by decide +kernel
theorem zd_W_joinNeeds_37 : decode zb_W_joinNeeds 37 = .ok (.aload_n 0, 1) := by decide +kernel
theorem zd_W_joinNeeds_38 : decode zb_W_joinNeeds 38 = .ok (.getfield 19, 3) := by decide +kernel
theorem zd_W_joinNeeds_41 : decode zb_W_joinNeeds 41 = .ok (.iload 4, 2) := by decide +kernel
theorem zd_W_joinNeeds_43 : decode zb_W_joinNeeds 43 = .ok (.iload 9, 2) := by decide +kernel
theorem zd_W_joinNeeds_45 : decode zb_W_joinNeeds 45 = .ok (.invokevirtual 152, 3) := by decide +kernel
theorem zd_W_joinNeeds_48 : decode zb_W_joinNeeds 48 = .ok (.iload 5, 2) := by decide +kernel
theorem zd_W_joinNeeds_50 : decode zb_W_joinNeeds 50 = .ok (.invokevirtual 200, 3) := by decide +kernel
theorem zd_W_joinNeeds_53 : decode zb_W_joinNeeds 53 = .ok (.lstore 7, 2) := by decide +kernel
theorem zd_W_joinNeeds_55 : decode zb_W_joinNeeds 55 = .ok (.iinc 9 1, 3) := by decide +kernel
theorem zd_W_joinNeeds_58 : decode zb_W_joinNeeds 58 = .ok (.goto (-41), 3) := by decide +kernel
theorem zd_W_joinNeeds_61 : decode zb_W_joinNeeds 61 = .ok (.lload 7, 2) := by decide +kernel
theorem zd_W_joinNeeds_63 : decode zb_W_joinNeeds 63 = .ok (.lreturn, 1) := by decide +kernel
theorem zd_M_keepDone_0 : decode zb_M_keepDone 0 = .ok (.iload_n 1, 1) := by decide +kernel
theorem zd_M_keepDone_1 : decode zb_M_keepDone 1 = .ok (.iload_n 2, 1) := by decide +kernel
theorem zd_M_keepDone_2 : decode zb_M_keepDone 2 = .ok (.invokestatic 37, 3) := by decide +kernel
theorem zd_M_keepDone_5 : decode zb_M_keepDone 5 = .ok (.istore 6, 2) := by decide +kernel
theorem zd_M_keepDone_7 : decode zb_M_keepDone 7 = .ok (.aload_n 0, 1) := by decide +kernel
theorem zd_M_keepDone_8 : decode zb_M_keepDone 8 = .ok (.getfield 11, 3) := by decide +kernel
theorem zd_M_keepDone_11 : decode zb_M_keepDone 11 = .ok (.iload 6, 2) := by decide +kernel
theorem zd_M_keepDone_13 : decode zb_M_keepDone 13 = .ok (.dup2, 1) := by decide +kernel
theorem zd_M_keepDone_14 : decode zb_M_keepDone 14 = .ok (.iaload, 1) := by decide +kernel
theorem zd_M_keepDone_15 : decode zb_M_keepDone 15 = .ok (.iconst 1, 1) := by decide +kernel
theorem zd_M_keepDone_16 : decode zb_M_keepDone 16 = .ok (.iload_n 3, 1) := by decide +kernel
theorem zd_M_keepDone_17 : decode zb_M_keepDone 17 = .ok (.ishl, 1) := by decide +kernel
theorem zd_M_keepDone_18 : decode zb_M_keepDone 18 = .ok (.ior, 1) := by decide +kernel
theorem zd_M_keepDone_19 : decode zb_M_keepDone 19 = .ok (.iastore, 1) := by decide +kernel
theorem zd_M_keepDone_20 : decode zb_M_keepDone 20 = .ok (.aload_n 0, 1) := by decide +kernel
theorem zd_M_keepDone_21 : decode zb_M_keepDone 21 = .ok (.getfield 18, 3) := by decide +kernel
theorem zd_M_keepDone_24 : decode zb_M_keepDone 24 = .ok (.iload 6, 2) := by decide +kernel
theorem zd_M_keepDone_26 : decode zb_M_keepDone 26 = .ok (.dup2, 1) := by decide +kernel
theorem zd_M_keepDone_27 : decode zb_M_keepDone 27 = .ok (.iaload, 1) := by decide +kernel
theorem zd_M_keepDone_28 : decode zb_M_keepDone 28 = .ok (.iconst 1, 1) := by decide +kernel
theorem zd_M_keepDone_29 : decode zb_M_keepDone 29 = .ok (.iadd, 1) := by decide +kernel
theorem zd_M_keepDone_30 : decode zb_M_keepDone 30 = .ok (.iastore, 1) := by decide +kernel
theorem zd_M_keepDone_31 : decode zb_M_keepDone 31 = .ok (.aload_n 0, 1) := by decide +kernel
theorem zd_M_keepDone_32 : decode zb_M_keepDone 32 = .ok (.getfield 21, 3) := by decide +kernel
theorem zd_M_keepDone_35 : decode zb_M_keepDone 35 = .ok (.iload 6, 2) := by decide +kernel
theorem zd_M_keepDone_37 : decode zb_M_keepDone 37 = .ok (.bipush 16, 2) := by decide +kernel
theorem zd_M_keepDone_39 : decode zb_M_keepDone 39 = .ok (.imul, 1) := by decide +kernel
theorem zd_M_keepDone_40 : decode zb_M_keepDone 40 = .ok (.iload_n 3, 1) := by decide +kernel
theorem zd_M_keepDone_41 : decode zb_M_keepDone 41 = .ok (.iadd, 1) := by decide +kernel
theorem zd_M_keepDone_42 : decode zb_M_keepDone 42 = .ok (.lload 4, 2) := by decide +kernel
theorem zd_M_keepDone_44 : decode zb_M_keepDone 44 = .ok (.lastore, 1) := by decide +kernel
theorem zd_M_keepDone_45 : decode zb_M_keepDone 45 = .ok (.aload_n 0, 1) := by decide +kernel
theorem zd_M_keepDone_46 : decode zb_M_keepDone 46 = .ok (.dup, 1) := by decide +kernel
theorem zd_M_keepDone_47 : decode zb_M_keepDone 47 = .ok (.getfield 41, 3) := by decide +kernel
theorem zd_M_keepDone_50 : decode zb_M_keepDone 50 = .ok (.iconst 1, 1) := by decide +kernel
theorem zd_M_keepDone_51 : decode zb_M_keepDone 51 = .ok (.iadd, 1) := by decide +kernel
theorem zd_M_keepDone_52 : decode zb_M_keepDone 52 = .ok (.putfield 41, 3) := by decide +kernel
theorem zd_M_keepDone_55 : decode zb_M_keepDone 55 = .ok (.return_, 1) := by decide +kernel
theorem zd_W_clash_0 : decode zb_W_clash 0 = .ok (.iload_n 1, 1) := by decide +kernel
theorem zd_W_clash_1 : decode zb_W_clash 1 = .ok (.ifCond .lt 17, 3) := by decide +kernel
theorem zd_W_clash_4 : decode zb_W_clash 4 = .ok (.iload_n 1, 1) := by decide +kernel
theorem zd_W_clash_5 : decode zb_W_clash 5 = .ok (.iconst 5, 1) := by decide +kernel
theorem zd_W_clash_6 : decode zb_W_clash 6 = .ok (.if_icmp .ge 12, 3) := by decide +kernel
theorem zd_W_clash_9 : decode zb_W_clash 9 = .ok (.aload_n 0, 1) := by decide +kernel
theorem zd_W_clash_10 : decode zb_W_clash 10 = .ok (.getfield 30, 3) := by decide +kernel
theorem zd_W_clash_13 : decode zb_W_clash 13 = .ok (.iload_n 1, 1) := by decide +kernel
theorem zd_W_clash_14 : decode zb_W_clash 14 = .ok (.iaload, 1) := by decide +kernel
theorem zd_W_clash_15 : decode zb_W_clash 15 = .ok (.goto 4, 3) := by decide +kernel
theorem zd_W_clash_18 : decode zb_W_clash 18 = .ok (.iconst (-1), 1) := by decide +kernel
theorem zd_W_clash_19 : decode zb_W_clash 19 = .ok (.ireturn, 1) := by decide +kernel
theorem zd_W_state_0 : decode zb_W_state 0 = .ok (.aload_n 0, 1) := by decide +kernel
theorem zd_W_state_1 : decode zb_W_state 1 = .ok (.iload_n 1, 1) := by decide +kernel
theorem zd_W_state_2 : decode zb_W_state 2 = .ok (.iload_n 2, 1) := by decide +kernel
theorem zd_W_state_3 : decode zb_W_state 3 = .ok (.iload_n 3, 1) := by decide +kernel
theorem zd_W_state_4 : decode zb_W_state 4 = .ok (.invokevirtual 91, 3) := by decide +kernel
theorem zd_W_state_7 : decode zb_W_state 7 = .ok (.ifCond .ne 5, 3) := by decide +kernel
theorem zd_W_state_10 : decode zb_W_state 10 = .ok (.iconst (-1), 1) := by decide +kernel
theorem zd_W_state_11 : decode zb_W_state 11 = .ok (.ireturn, 1) := by decide +kernel
theorem zd_W_state_12 : decode zb_W_state 12 = .ok (.aload_n 0, 1) := by decide +kernel
theorem zd_W_state_13 : decode zb_W_state 13 = .ok (.getfield 26, 3) := by decide +kernel
theorem zd_W_state_16 : decode zb_W_state 16 = .ok (.aload_n 0, 1) := by decide +kernel
theorem zd_W_state_17 : decode zb_W_state 17 = .ok (.getfield 12, 3) := by decide +kernel
theorem zd_W_state_20 : decode zb_W_state 20 = .ok (.iload_n 1, 1) := by decide +kernel
theorem zd_W_state_21 : decode zb_W_state 21 = .ok (.invokevirtual 52, 3) := by decide +kernel
theorem zd_W_state_24 : decode zb_W_state 24 = .ok (.iload_n 2, 1) := by decide +kernel
theorem zd_W_state_25 : decode zb_W_state 25 = .ok (.iload_n 3, 1) := by decide +kernel
theorem zd_W_state_26 : decode zb_W_state 26 = .ok (.invokevirtual 98, 3) := by decide +kernel
theorem zd_W_state_29 : decode zb_W_state 29 = .ok (.ireturn, 1) := by decide +kernel
theorem zd_W_worked_0 : decode zb_W_worked 0 = .ok (.aload_n 0, 1) := by decide +kernel
theorem zd_W_worked_1 : decode zb_W_worked 1 = .ok (.getfield 12, 3) := by decide +kernel
theorem zd_W_worked_4 : decode zb_W_worked 4 = .ok (.iload_n 1, 1) := by decide +kernel
theorem zd_W_worked_5 : decode zb_W_worked 5 = .ok (.invokevirtual 44, 3) := by decide +kernel
theorem zd_W_worked_8 : decode zb_W_worked 8 = .ok (.ifCond .eq 14, 3) := by decide +kernel
theorem zd_W_worked_11 : decode zb_W_worked 11 = .ok (.aload_n 0, 1) := by decide +kernel
theorem zd_W_worked_12 : decode zb_W_worked 12 = .ok (.getfield 19, 3) := by decide +kernel
theorem zd_W_worked_15 : decode zb_W_worked 15 = .ok (.iload_n 2, 1) := by decide +kernel
theorem zd_W_worked_16 : decode zb_W_worked 16 = .ok (.invokevirtual 73, 3) := by decide +kernel
theorem zd_W_worked_19 : decode zb_W_worked 19 = .ok (.ifCond .ne 5, 3) := by decide +kernel
theorem zd_W_worked_22 : decode zb_W_worked 22 = .ok (.iconst 0, 1) := by decide +kernel
theorem zd_W_worked_23 : decode zb_W_worked 23 = .ok (.ireturn, 1) := by decide +kernel
theorem zd_W_worked_24 : decode zb_W_worked 24 = .ok (.aload_n 0, 1) := by decide +kernel
theorem zd_W_worked_25 : decode zb_W_worked 25 = .ok (.getfield 26, 3) := by decide +kernel
theorem zd_W_worked_28 : decode zb_W_worked 28 = .ok (.aload_n 0, 1) := by decide +kernel
theorem zd_W_worked_29 : decode zb_W_worked 29 = .ok (.getfield 12, 3) := by decide +kernel
theorem zd_W_worked_32 : decode zb_W_worked 32 = .ok (.iload_n 1, 1) := by decide +kernel
theorem zd_W_worked_33 : decode zb_W_worked 33 = .ok (.invokevirtual 52, 3) := by decide +kernel
theorem zd_W_worked_36 : decode zb_W_worked 36 = .ok (.iload_n 2, 1) := by decide +kernel
theorem zd_W_worked_37 : decode zb_W_worked 37 = .ok (.invokevirtual 118, 3) := by decide +kernel
theorem zd_W_worked_40 : decode zb_W_worked 40 = .ok (.ireturn, 1) := by decide +kernel
theorem zd_M_timesDone_0 : decode zb_M_timesDone 0 = .ok (.aload_n 0, 1) := by decide +kernel
theorem zd_M_timesDone_1 : decode zb_M_timesDone 1 = .ok (.getfield 18, 3) := by decide +kernel
theorem zd_M_timesDone_4 : decode zb_M_timesDone 4 = .ok (.iload_n 1, 1) := by decide +kernel
theorem zd_M_timesDone_5 : decode zb_M_timesDone 5 = .ok (.iload_n 2, 1) := by decide +kernel
theorem zd_M_timesDone_6 : decode zb_M_timesDone 6 = .ok (.invokestatic 37, 3) := by decide +kernel
theorem zd_M_timesDone_9 : decode zb_M_timesDone 9 = .ok (.iaload, 1) := by decide +kernel
theorem zd_M_timesDone_10 : decode zb_M_timesDone 10 = .ok (.ireturn, 1) := by decide +kernel
theorem zd_W_done_0 : decode zb_W_done 0 = .ok (.aload_n 0, 1) := by decide +kernel
theorem zd_W_done_1 : decode zb_W_done 1 = .ok (.getfield 26, 3) := by decide +kernel
theorem zd_W_done_4 : decode zb_W_done 4 = .ok (.invokevirtual 122, 3) := by decide +kernel
theorem zd_W_done_7 : decode zb_W_done 7 = .ok (.ireturn, 1) := by decide +kernel
theorem zd_M_doneCount_0 : decode zb_M_doneCount 0 = .ok (.aload_n 0, 1) := by decide +kernel
theorem zd_M_doneCount_1 : decode zb_M_doneCount 1 = .ok (.getfield 41, 3) := by decide +kernel
theorem zd_M_doneCount_4 : decode zb_M_doneCount 4 = .ok (.ireturn, 1) := by decide +kernel
theorem zd_W_maker_0 : decode zb_W_maker 0 = .ok (.aload_n 0, 1) := by decide +kernel
theorem zd_W_maker_1 : decode zb_W_maker 1 = .ok (.getfield 12, 3) := by decide +kernel
theorem zd_W_maker_4 : decode zb_W_maker 4 = .ok (.iload_n 1, 1) := by decide +kernel
theorem zd_W_maker_5 : decode zb_W_maker 5 = .ok (.invokevirtual 44, 3) := by decide +kernel
theorem zd_W_maker_8 : decode zb_W_maker 8 = .ok (.ifCond .eq 13, 3) := by decide +kernel
theorem zd_W_maker_11 : decode zb_W_maker 11 = .ok (.iload_n 2, 1) := by decide +kernel
theorem zd_W_maker_12 : decode zb_W_maker 12 = .ok (.ifCond .lt 9, 3) := by decide +kernel
theorem zd_W_maker_15 : decode zb_W_maker 15 = .ok (.iload_n 2, 1) := by decide +kernel
theorem zd_W_maker_16 : decode zb_W_maker 16 = .ok (.bipush 10, 2) := by decide +kernel
theorem zd_W_maker_18 : decode zb_W_maker 18 = .ok (.if_icmp .lt 5, 3) := by decide +kernel
theorem zd_W_maker_21 : decode zb_W_maker 21 = .ok (.iconst (-1), 1) := by decide +kernel
theorem zd_W_maker_22 : decode zb_W_maker 22 = .ok (.ireturn, 1) := by decide +kernel
theorem zd_W_maker_23 : decode zb_W_maker 23 = .ok (.aload_n 0, 1) := by decide +kernel
theorem zd_W_maker_24 : decode zb_W_maker 24 = .ok (.getfield 26, 3) := by decide +kernel
theorem zd_W_maker_27 : decode zb_W_maker 27 = .ok (.aload_n 0, 1) := by decide +kernel
theorem zd_W_maker_28 : decode zb_W_maker 28 = .ok (.getfield 12, 3) := by decide +kernel
theorem zd_W_maker_31 : decode zb_W_maker 31 = .ok (.iload_n 1, 1) := by decide +kernel
theorem zd_W_maker_32 : decode zb_W_maker 32 = .ok (.invokevirtual 52, 3) := by decide +kernel
theorem zd_W_maker_35 : decode zb_W_maker 35 = .ok (.iload_n 2, 1) := by decide +kernel
theorem zd_W_maker_36 : decode zb_W_maker 36 = .ok (.invokevirtual 126, 3) := by decide +kernel
theorem zd_W_maker_39 : decode zb_W_maker 39 = .ok (.ireturn, 1) := by decide +kernel
theorem zd_L_result_0 : decode zb_L_result 0 = .ok (.aload 4, 2) := by decide +kernel
theorem zd_L_result_2 : decode zb_L_result 2 = .ok (.iconst 0, 1) := by decide +kernel
theorem zd_L_result_3 : decode zb_L_result 3 = .ok (.aload_n 0, 1) := by decide +kernel
theorem zd_L_result_4 : decode zb_L_result 4 = .ok (.iload_n 1, 1) := by decide +kernel
theorem zd_L_result_5 : decode zb_L_result 5 = .ok (.iload_n 2, 1) := by decide +kernel
theorem zd_L_result_6 : decode zb_L_result 6 = .ok (.iload_n 3, 1) := by decide +kernel
theorem zd_L_result_7 : decode zb_L_result 7 = .ok (.invokevirtual 7, 3) := by decide +kernel
theorem zd_L_result_10 : decode zb_L_result 10 = .ok (.lastore, 1) := by decide +kernel
theorem zd_L_result_11 : decode zb_L_result 11 = .ok (.goto 11, 3) := by decide +kernel
theorem zd_L_result_14 : decode zb_L_result 14 = .ok (.astore 5, 2) := by decide +kernel
theorem zd_L_result_16 : decode zb_L_result 16 = .ok (.iconst 1, 1) := by decide +kernel
theorem zd_L_result_17 : decode zb_L_result 17 = .ok (.ireturn, 1) := by decide +kernel
theorem zd_L_result_18 : decode zb_L_result 18 = .ok (.astore 5, 2) := by decide +kernel
theorem zd_L_result_20 : decode zb_L_result 20 = .ok (.iconst 2, 1) := by decide +kernel
theorem zd_L_result_21 : decode zb_L_result 21 = .ok (.ireturn, 1) := by decide +kernel
theorem zd_L_result_22 : decode zb_L_result 22 = .ok (.iconst 0, 1) := by decide +kernel
theorem zd_L_result_23 : decode zb_L_result 23 = .ok (.ireturn, 1) := by decide +kernel
theorem zd_W_result_0 : decode zb_W_result 0 = .ok (.aload_n 0, 1) := by decide +kernel
theorem zd_W_result_1 : decode zb_W_result 1 = .ok (.iload_n 1, 1) := by decide +kernel
theorem zd_W_result_2 : decode zb_W_result 2 = .ok (.iload_n 2, 1) := by decide +kernel
theorem zd_W_result_3 : decode zb_W_result 3 = .ok (.iload_n 3, 1) := by decide +kernel
theorem zd_W_result_4 : decode zb_W_result 4 = .ok (.invokevirtual 91, 3) := by decide +kernel
theorem zd_W_result_7 : decode zb_W_result 7 = .ok (.ifCond .ne 13, 3) := by decide +kernel
theorem zd_W_result_10 : decode zb_W_result 10 = .ok (.new 102, 3) := by decide +kernel
theorem zd_W_result_13 : decode zb_W_result 13 = .ok (.dup, 1) := by decide +kernel
theorem zd_W_result_14 : decode zb_W_result 14 = .ok (.ldc 104, 2) := by decide +kernel
theorem zd_W_result_16 : decode zb_W_result 16 = .ok (.invokespecial 106, 3) := by decide +kernel
theorem zd_W_result_19 : decode zb_W_result 19 = .ok (.athrow, 1) := by decide +kernel
theorem zd_W_result_20 : decode zb_W_result 20 = .ok (.aload_n 0, 1) := by decide +kernel
theorem zd_W_result_21 : decode zb_W_result 21 = .ok (.getfield 12, 3) := by decide +kernel
theorem zd_W_result_24 : decode zb_W_result 24 = .ok (.iload_n 1, 1) := by decide +kernel
theorem zd_W_result_25 : decode zb_W_result 25 = .ok (.invokevirtual 52, 3) := by decide +kernel
theorem zd_W_result_28 : decode zb_W_result 28 = .ok (.istore 4, 2) := by decide +kernel
theorem zd_W_result_30 : decode zb_W_result 30 = .ok (.aload_n 0, 1) := by decide +kernel
theorem zd_W_result_31 : decode zb_W_result 31 = .ok (.getfield 26, 3) := by decide +kernel
theorem zd_W_result_34 : decode zb_W_result 34 = .ok (.iload 4, 2) := by decide +kernel
theorem zd_W_result_36 : decode zb_W_result 36 = .ok (.iload_n 2, 1) := by decide +kernel
theorem zd_W_result_37 : decode zb_W_result 37 = .ok (.iload_n 3, 1) := by decide +kernel
theorem zd_W_result_38 : decode zb_W_result 38 = .ok (.invokevirtual 98, 3) := by decide +kernel
theorem zd_W_result_41 : decode zb_W_result 41 = .ok (.iconst 1, 1) := by decide +kernel
theorem zd_W_result_42 : decode zb_W_result 42 = .ok (.if_icmp .eq 13, 3) := by decide +kernel
theorem zd_W_result_45 : decode zb_W_result 45 = .ok (.new 109, 3) := by decide +kernel
theorem zd_W_result_48 : decode zb_W_result 48 = .ok (.dup, 1) := by decide +kernel
theorem zd_W_result_49 : decode zb_W_result 49 = .ok (.ldc 111, 2) := by decide +kernel
theorem zd_W_result_51 : decode zb_W_result 51 = .ok (.invokespecial 113, 3) := by decide +kernel
theorem zd_W_result_54 : decode zb_W_result 54 = .ok (.athrow, 1) := by decide +kernel
theorem zd_W_result_55 : decode zb_W_result 55 = .ok (.aload_n 0, 1) := by decide +kernel
theorem zd_W_result_56 : decode zb_W_result 56 = .ok (.getfield 26, 3) := by decide +kernel
theorem zd_W_result_59 : decode zb_W_result 59 = .ok (.iload 4, 2) := by decide +kernel
theorem zd_W_result_61 : decode zb_W_result 61 = .ok (.iload_n 2, 1) := by decide +kernel
theorem zd_W_result_62 : decode zb_W_result 62 = .ok (.iload_n 3, 1) := by decide +kernel
theorem zd_W_result_63 : decode zb_W_result 63 = .ok (.invokevirtual 114, 3) := by decide +kernel
theorem zd_W_result_66 : decode zb_W_result 66 = .ok (.lreturn, 1) := by decide +kernel
theorem zd_R_init_0 : decode zb_R_init 0 = .ok (.aload_n 0, 1) := by decide +kernel
theorem zd_R_init_1 : decode zb_R_init 1 = .ok (.invokespecial 1, 3) := by decide +kernel
theorem zd_R_init_4 : decode zb_R_init 4 = .ok (.aload_n 0, 1) := by decide +kernel
theorem zd_R_init_5 : decode zb_R_init 5 = .ok (.bipush 20, 2) := by decide +kernel
theorem zd_R_init_7 : decode zb_R_init 7 = .ok (.newarray .int, 2) := by decide +kernel
theorem zd_R_init_9 : decode zb_R_init 9 = .ok (.putfield 7, 3) := by decide +kernel
theorem zd_R_init_12 : decode zb_R_init 12 = .ok (.aload_n 0, 1) := by decide +kernel
theorem zd_R_init_13 : decode zb_R_init 13 = .ok (.bipush 20, 2) := by decide +kernel
theorem zd_R_init_15 : decode zb_R_init 15 = .ok (.newarray .long, 2) := by decide +kernel
theorem zd_R_init_17 : decode zb_R_init 17 = .ok (.putfield 13, 3) := by decide +kernel
theorem zd_R_init_20 : decode zb_R_init 20 = .ok (.aload_n 0, 1) := by decide +kernel
theorem zd_R_init_21 : decode zb_R_init 21 = .ok (.bipush 20, 2) := by decide +kernel
theorem zd_R_init_23 : decode zb_R_init 23 = .ok (.newarray .int, 2) := by decide +kernel
theorem zd_R_init_25 : decode zb_R_init 25 = .ok (.putfield 17, 3) := by decide +kernel
theorem zd_R_init_28 : decode zb_R_init 28 = .ok (.aload_n 0, 1) := by decide +kernel
theorem zd_R_init_29 : decode zb_R_init 29 = .ok (.bipush 60, 2) := by decide +kernel
theorem zd_R_init_31 : decode zb_R_init 31 = .ok (.newarray .int, 2) := by decide +kernel
theorem zd_R_init_33 : decode zb_R_init 33 = .ok (.putfield 20, 3) := by decide +kernel
theorem zd_R_init_36 : decode zb_R_init 36 = .ok (.aload_n 0, 1) := by decide +kernel
theorem zd_R_init_37 : decode zb_R_init 37 = .ok (.sipush 240, 3) := by decide +kernel
theorem zd_R_init_40 : decode zb_R_init 40 = .ok (.newarray .int, 2) := by decide +kernel
theorem zd_R_init_42 : decode zb_R_init 42 = .ok (.putfield 23, 3) := by decide +kernel
theorem zd_R_init_45 : decode zb_R_init 45 = .ok (.aload_n 0, 1) := by decide +kernel
theorem zd_R_init_46 : decode zb_R_init 46 = .ok (.bipush 8, 2) := by decide +kernel
theorem zd_R_init_48 : decode zb_R_init 48 = .ok (.newarray .int, 2) := by decide +kernel
theorem zd_R_init_50 : decode zb_R_init 50 = .ok (.putfield 26, 3) := by decide +kernel
theorem zd_R_init_53 : decode zb_R_init 53 = .ok (.aload_n 0, 1) := by decide +kernel
theorem zd_R_init_54 : decode zb_R_init 54 = .ok (.bipush 8, 2) := by decide +kernel
theorem zd_R_init_56 : decode zb_R_init 56 = .ok (.newarray .int, 2) := by decide +kernel
theorem zd_R_init_58 : decode zb_R_init 58 = .ok (.putfield 29, 3) := by decide +kernel
theorem zd_R_init_61 : decode zb_R_init 61 = .ok (.aload_n 0, 1) := by decide +kernel
theorem zd_R_init_62 : decode zb_R_init 62 = .ok (.bipush 8, 2) := by decide +kernel
theorem zd_R_init_64 : decode zb_R_init 64 = .ok (.newarray .int, 2) := by decide +kernel
theorem zd_R_init_66 : decode zb_R_init 66 = .ok (.putfield 32, 3) := by decide +kernel
theorem zd_R_init_69 : decode zb_R_init 69 = .ok (.aload_n 0, 1) := by decide +kernel
theorem zd_R_init_70 : decode zb_R_init 70 = .ok (.bipush 8, 2) := by decide +kernel
theorem zd_R_init_72 : decode zb_R_init 72 = .ok (.newarray .int, 2) := by decide +kernel
theorem zd_R_init_74 : decode zb_R_init 74 = .ok (.putfield 35, 3) := by decide +kernel
theorem zd_R_init_77 : decode zb_R_init 77 = .ok (.aload_n 0, 1) := by decide +kernel
theorem zd_R_init_78 : decode zb_R_init 78 = .ok (.bipush 8, 2) := by decide +kernel
theorem zd_R_init_80 : decode zb_R_init 80 = .ok (.newarray .int, 2) := by decide +kernel
theorem zd_R_init_82 : decode zb_R_init 82 = .ok (.putfield 38, 3) := by decide +kernel
theorem zd_R_init_85 : decode zb_R_init 85 = .ok (.aload_n 0, 1) := by decide +kernel
theorem zd_R_init_86 : decode zb_R_init 86 = .ok (.bipush 8, 2) := by decide +kernel
theorem zd_R_init_88 : decode zb_R_init 88 = .ok (.newarray .int, 2) := by decide +kernel
theorem zd_R_init_90 : decode zb_R_init 90 = .ok (.putfield 41, 3) := by decide +kernel
theorem zd_R_init_93 : decode zb_R_init 93 = .ok (.aload_n 0, 1) := by decide +kernel
theorem zd_R_init_94 : decode zb_R_init 94 = .ok (.bipush 24, 2) := by decide +kernel
theorem zd_R_init_96 : decode zb_R_init 96 = .ok (.newarray .int, 2) := by decide +kernel
theorem zd_R_init_98 : decode zb_R_init 98 = .ok (.putfield 44, 3) := by decide +kernel
theorem zd_R_init_101 : decode zb_R_init 101 = .ok (.aload_n 0, 1) := by decide +kernel
theorem zd_R_init_102 : decode zb_R_init 102 = .ok (.sipush 2560, 3) := by decide +kernel
theorem zd_R_init_105 : decode zb_R_init 105 = .ok (.newarray .int, 2) := by decide +kernel
theorem zd_R_init_107 : decode zb_R_init 107 = .ok (.putfield 47, 3) := by decide +kernel
theorem zd_R_init_110 : decode zb_R_init 110 = .ok (.aload_n 0, 1) := by decide +kernel
theorem zd_R_init_111 : decode zb_R_init 111 = .ok (.sipush 2560, 3) := by decide +kernel
theorem zd_R_init_114 : decode zb_R_init 114 = .ok (.newarray .long, 2) := by decide +kernel
theorem zd_R_init_116 : decode zb_R_init 116 = .ok (.putfield 50, 3) := by decide +kernel
theorem zd_R_init_119 : decode zb_R_init 119 = .ok (.aload_n 0, 1) := by decide +kernel
theorem zd_R_init_120 : decode zb_R_init 120 = .ok (.sipush 160, 3) := by decide +kernel
theorem zd_R_init_123 : decode zb_R_init 123 = .ok (.newarray .int, 2) := by decide +kernel
theorem zd_R_init_125 : decode zb_R_init 125 = .ok (.putfield 53, 3) := by decide +kernel
theorem zd_R_init_128 : decode zb_R_init 128 = .ok (.aload_n 0, 1) := by decide +kernel
theorem zd_R_init_129 : decode zb_R_init 129 = .ok (.sipush 200, 3) := by decide +kernel
theorem zd_R_init_132 : decode zb_R_init 132 = .ok (.newarray .int, 2) := by decide +kernel
theorem zd_R_init_134 : decode zb_R_init 134 = .ok (.putfield 56, 3) := by decide +kernel
theorem zd_R_init_137 : decode zb_R_init 137 = .ok (.aload_n 0, 1) := by decide +kernel
theorem zd_R_init_138 : decode zb_R_init 138 = .ok (.iconst 5, 1) := by decide +kernel
theorem zd_R_init_139 : decode zb_R_init 139 = .ok (.newarray .int, 2) := by decide +kernel
theorem zd_R_init_141 : decode zb_R_init 141 = .ok (.putfield 59, 3) := by decide +kernel
theorem zd_R_init_144 : decode zb_R_init 144 = .ok (.aload_n 0, 1) := by decide +kernel
theorem zd_R_init_145 : decode zb_R_init 145 = .ok (.sipush 170, 3) := by decide +kernel
theorem zd_R_init_148 : decode zb_R_init 148 = .ok (.newarray .int, 2) := by decide +kernel
theorem zd_R_init_150 : decode zb_R_init 150 = .ok (.putfield 62, 3) := by decide +kernel
theorem zd_R_init_153 : decode zb_R_init 153 = .ok (.aload_n 0, 1) := by decide +kernel
theorem zd_R_init_154 : decode zb_R_init 154 = .ok (.sipush 170, 3) := by decide +kernel
theorem zd_R_init_157 : decode zb_R_init 157 = .ok (.newarray .int, 2) := by decide +kernel
theorem zd_R_init_159 : decode zb_R_init 159 = .ok (.putfield 65, 3) := by decide +kernel
theorem zd_R_init_162 : decode zb_R_init 162 = .ok (.aload_n 0, 1) := by decide +kernel
theorem zd_R_init_163 : decode zb_R_init 163 = .ok (.bipush 20, 2) := by decide +kernel
theorem zd_R_init_165 : decode zb_R_init 165 = .ok (.newarray .boolean, 2) := by decide +kernel
theorem zd_R_init_167 : decode zb_R_init 167 = .ok (.putfield 68, 3) := by decide +kernel
theorem zd_R_init_170 : decode zb_R_init 170 = .ok (.iconst 0, 1) := by decide +kernel
theorem zd_R_init_171 : decode zb_R_init 171 = .ok (.istore_n 1, 1) := by decide +kernel
theorem zd_R_init_172 : decode zb_R_init 172 = .ok (.iload_n 1, 1) := by decide +kernel
theorem zd_R_init_173 : decode zb_R_init 173 = .ok (.sipush 200, 3) := by decide +kernel
theorem zd_R_init_176 : decode zb_R_init 176 = .ok (.if_icmp .ge 16, 3) := by decide +kernel
theorem zd_R_init_179 : decode zb_R_init 179 = .ok (.aload_n 0, 1) := by decide +kernel
theorem zd_R_init_180 : decode zb_R_init 180 = .ok (.getfield 56, 3) := by decide +kernel
theorem zd_R_init_183 : decode zb_R_init 183 = .ok (.iload_n 1, 1) := by decide +kernel
theorem zd_R_init_184 : decode zb_R_init 184 = .ok (.iconst (-1), 1) := by decide +kernel
theorem zd_R_init_185 : decode zb_R_init 185 = .ok (.iastore, 1) := by decide +kernel
theorem zd_R_init_186 : decode zb_R_init 186 = .ok (.iinc 1 1, 3) := by decide +kernel
theorem zd_R_init_189 : decode zb_R_init 189 = .ok (.goto (-17), 3) := by decide +kernel
theorem zd_R_init_192 : decode zb_R_init 192 = .ok (.iconst 0, 1) := by decide +kernel
theorem zd_R_init_193 : decode zb_R_init 193 = .ok (.istore_n 1, 1) := by decide +kernel
theorem zd_R_init_194 : decode zb_R_init 194 = .ok (.iload_n 1, 1) := by decide +kernel
theorem zd_R_init_195 : decode zb_R_init 195 = .ok (.iconst 5, 1) := by decide +kernel
theorem zd_R_init_196 : decode zb_R_init 196 = .ok (.if_icmp .ge 16, 3) := by decide +kernel
theorem zd_R_init_199 : decode zb_R_init 199 = .ok (.aload_n 0, 1) := by decide +kernel
theorem zd_R_init_200 : decode zb_R_init 200 = .ok (.getfield 59, 3) := by decide +kernel
theorem zd_R_init_203 : decode zb_R_init 203 = .ok (.iload_n 1, 1) := by decide +kernel
theorem zd_R_init_204 : decode zb_R_init 204 = .ok (.iconst (-1), 1) := by decide +kernel
theorem zd_R_init_205 : decode zb_R_init 205 = .ok (.iastore, 1) := by decide +kernel
theorem zd_R_init_206 : decode zb_R_init 206 = .ok (.iinc 1 1, 3) := by decide +kernel
theorem zd_R_init_209 : decode zb_R_init 209 = .ok (.goto (-15), 3) := by decide +kernel
theorem zd_R_init_212 : decode zb_R_init 212 = .ok (.return_, 1) := by decide +kernel
theorem zd_R_thrown_0 : decode zb_R_thrown 0 = .ok (.aload_n 0, 1) := by decide +kernel
theorem zd_R_thrown_1 : decode zb_R_thrown 1 = .ok (.getfield 72, 3) := by decide +kernel
theorem zd_R_thrown_4 : decode zb_R_thrown 4 = .ok (.ireturn, 1) := by decide +kernel
theorem zd_R_target_0 : decode zb_R_target 0 = .ok (.aload_n 0, 1) := by decide +kernel
theorem zd_R_target_1 : decode zb_R_target 1 = .ok (.iconst 0, 1) := by decide +kernel
theorem zd_R_target_2 : decode zb_R_target 2 = .ok (.putfield 72, 3) := by decide +kernel
theorem zd_R_target_5 : decode zb_R_target 5 = .ok (.aload_n 0, 1) := by decide +kernel
theorem zd_R_target_6 : decode zb_R_target 6 = .ok (.getfield 76, 3) := by decide +kernel
theorem zd_R_target_9 : decode zb_R_target 9 = .ok (.bipush 20, 2) := by decide +kernel
theorem zd_R_target_11 : decode zb_R_target 11 = .ok (.if_icmp .ne 5, 3) := by decide +kernel
theorem zd_R_target_14 : decode zb_R_target 14 = .ok (.iconst (-1), 1) := by decide +kernel
theorem zd_R_target_15 : decode zb_R_target 15 = .ok (.ireturn, 1) := by decide +kernel
theorem zd_R_target_16 : decode zb_R_target 16 = .ok (.aload_n 0, 1) := by decide +kernel
theorem zd_R_target_17 : decode zb_R_target 17 = .ok (.getfield 7, 3) := by decide +kernel
theorem zd_R_target_20 : decode zb_R_target 20 = .ok (.aload_n 0, 1) := by decide +kernel
theorem zd_R_target_21 : decode zb_R_target 21 = .ok (.getfield 76, 3) := by decide +kernel
theorem zd_R_target_24 : decode zb_R_target 24 = .ok (.aload_n 0, 1) := by decide +kernel
theorem zd_R_target_25 : decode zb_R_target 25 = .ok (.getfield 76, 3) := by decide +kernel
theorem zd_R_target_28 : decode zb_R_target 28 = .ok (.iastore, 1) := by decide +kernel
theorem zd_R_target_29 : decode zb_R_target 29 = .ok (.aload_n 0, 1) := by decide +kernel
theorem zd_R_target_30 : decode zb_R_target 30 = .ok (.getfield 13, 3) := by decide +kernel
theorem zd_R_target_33 : decode zb_R_target 33 = .ok (.aload_n 0, 1) := by decide +kernel
theorem zd_R_target_34 : decode zb_R_target 34 = .ok (.getfield 76, 3) := by decide +kernel
theorem zd_R_target_37 : decode zb_R_target 37 = .ok (.lload_n 1, 1) := by decide +kernel
theorem zd_R_target_38 : decode zb_R_target 38 = .ok (.lastore, 1) := by decide +kernel
theorem zd_R_target_39 : decode zb_R_target 39 = .ok (.aload_n 0, 1) := by decide +kernel
theorem zd_R_target_40 : decode zb_R_target 40 = .ok (.getfield 17, 3) := by decide +kernel
theorem zd_R_target_43 : decode zb_R_target 43 = .ok (.aload_n 0, 1) := by decide +kernel
theorem zd_R_target_44 : decode zb_R_target 44 = .ok (.getfield 76, 3) := by decide +kernel
theorem zd_R_target_47 : decode zb_R_target 47 = .ok (.iload_n 3, 1) := by decide +kernel
theorem zd_R_target_48 : decode zb_R_target 48 = .ok (.sipush 255, 3) := by decide +kernel
theorem zd_R_target_51 : decode zb_R_target 51 = .ok (.iand, 1) := by decide +kernel
theorem zd_R_target_52 : decode zb_R_target 52 = .ok (.iastore, 1) := by decide +kernel
theorem zd_R_target_53 : decode zb_R_target 53 = .ok (.aload_n 0, 1) := by decide +kernel
theorem zd_R_target_54 : decode zb_R_target 54 = .ok (.dup, 1) := by decide +kernel
theorem zd_R_target_55 : decode zb_R_target 55 = .ok (.getfield 76, 3) := by decide +kernel
theorem zd_R_target_58 : decode zb_R_target 58 = .ok (.iconst 1, 1) := by decide +kernel
theorem zd_R_target_59 : decode zb_R_target 59 = .ok (.iadd, 1) := by decide +kernel
theorem zd_R_target_60 : decode zb_R_target 60 = .ok (.putfield 76, 3) := by decide +kernel
theorem zd_R_target_63 : decode zb_R_target 63 = .ok (.aload_n 0, 1) := by decide +kernel
theorem zd_R_target_64 : decode zb_R_target 64 = .ok (.getfield 76, 3) := by decide +kernel
theorem zd_R_target_67 : decode zb_R_target 67 = .ok (.iconst 1, 1) := by decide +kernel
theorem zd_R_target_68 : decode zb_R_target 68 = .ok (.isub, 1) := by decide +kernel
theorem zd_R_target_69 : decode zb_R_target 69 = .ok (.ireturn, 1) := by decide +kernel
theorem zd_R_alias_0 : decode zb_R_alias 0 = .ok (.aload_n 0, 1) := by decide +kernel
theorem zd_R_alias_1 : decode zb_R_alias 1 = .ok (.iconst 0, 1) := by decide +kernel
theorem zd_R_alias_2 : decode zb_R_alias 2 = .ok (.putfield 72, 3) := by decide +kernel
theorem zd_R_alias_5 : decode zb_R_alias 5 = .ok (.aload_n 0, 1) := by decide +kernel
theorem zd_R_alias_6 : decode zb_R_alias 6 = .ok (.getfield 76, 3) := by decide +kernel
theorem zd_R_alias_9 : decode zb_R_alias 9 = .ok (.bipush 20, 2) := by decide +kernel
theorem zd_R_alias_11 : decode zb_R_alias 11 = .ok (.if_icmp .eq 11, 3) := by decide +kernel
theorem zd_R_alias_14 : decode zb_R_alias 14 = .ok (.aload_n 0, 1) := by decide +kernel
theorem zd_R_alias_15 : decode zb_R_alias 15 = .ok (.iload_n 1, 1) := by decide +kernel
theorem zd_R_alias_16 : decode zb_R_alias 16 = .ok (.invokevirtual 82, 3) := by decide +kernel
theorem zd_R_alias_19 : decode zb_R_alias 19 = .ok (.ifCond .ne 5, 3) := by decide +kernel
theorem zd_R_alias_22 : decode zb_R_alias 22 = .ok (.iconst (-1), 1) := by decide +kernel
theorem zd_R_alias_23 : decode zb_R_alias 23 = .ok (.ireturn, 1) := by decide +kernel
theorem zd_R_alias_24 : decode zb_R_alias 24 = .ok (.aload_n 0, 1) := by decide +kernel
theorem zd_R_alias_25 : decode zb_R_alias 25 = .ok (.getfield 7, 3) := by decide +kernel
theorem zd_R_alias_28 : decode zb_R_alias 28 = .ok (.aload_n 0, 1) := by decide +kernel
theorem zd_R_alias_29 : decode zb_R_alias 29 = .ok (.getfield 76, 3) := by decide +kernel
theorem zd_R_alias_32 : decode zb_R_alias 32 = .ok (.aload_n 0, 1) := by decide +kernel
theorem zd_R_alias_33 : decode zb_R_alias 33 = .ok (.getfield 7, 3) := by decide +kernel
theorem zd_R_alias_36 : decode zb_R_alias 36 = .ok (.iload_n 1, 1) := by decide +kernel
theorem zd_R_alias_37 : decode zb_R_alias 37 = .ok (.iaload, 1) := by decide +kernel
theorem zd_R_alias_38 : decode zb_R_alias 38 = .ok (.iastore, 1) := by decide +kernel
theorem zd_R_alias_39 : decode zb_R_alias 39 = .ok (.aload_n 0, 1) := by decide +kernel
theorem zd_R_alias_40 : decode zb_R_alias 40 = .ok (.dup, 1) := by decide +kernel
theorem zd_R_alias_41 : decode zb_R_alias 41 = .ok (.getfield 76, 3) := by decide +kernel
theorem zd_R_alias_44 : decode zb_R_alias 44 = .ok (.iconst 1, 1) := by decide +kernel
theorem zd_R_alias_45 : decode zb_R_alias 45 = .ok (.iadd, 1) := by decide +kernel
theorem zd_R_alias_46 : decode zb_R_alias 46 = .ok (.putfield 76, 3) := by decide +kernel
theorem zd_R_alias_49 : decode zb_R_alias 49 = .ok (.aload_n 0, 1) := by decide +kernel
theorem zd_R_alias_50 : decode zb_R_alias 50 = .ok (.getfield 76, 3) := by decide +kernel
theorem zd_R_alias_53 : decode zb_R_alias 53 = .ok (.iconst 1, 1) := by decide +kernel
theorem zd_R_alias_54 : decode zb_R_alias 54 = .ok (.isub, 1) := by decide +kernel
theorem zd_R_alias_55 : decode zb_R_alias 55 = .ok (.ireturn, 1) := by decide +kernel
theorem zd_R_isTarget_0 : decode zb_R_isTarget 0 = .ok (.iload_n 1, 1) := by decide +kernel
theorem zd_R_isTarget_1 : decode zb_R_isTarget 1 = .ok (.ifCond .lt 15, 3) := by decide +kernel
theorem zd_R_isTarget_4 : decode zb_R_isTarget 4 = .ok (.iload_n 1, 1) := by decide +kernel
theorem zd_R_isTarget_5 : decode zb_R_isTarget 5 = .ok (.aload_n 0, 1) := by decide +kernel
theorem zd_R_isTarget_6 : decode zb_R_isTarget 6 = .ok (.getfield 76, 3) := by decide +kernel
theorem zd_R_isTarget_9 : decode zb_R_isTarget 9 = .ok (.if_icmp .ge 7, 3) := by decide +kernel
theorem zd_R_isTarget_12 : decode zb_R_isTarget 12 = .ok (.iconst 1, 1) := by decide +kernel
theorem zd_R_isTarget_13 : decode zb_R_isTarget 13 = .ok (.goto 4, 3) := by decide +kernel
theorem zd_R_isTarget_16 : decode zb_R_isTarget 16 = .ok (.iconst 0, 1) := by decide +kernel
theorem zd_R_isTarget_17 : decode zb_R_isTarget 17 = .ok (.ireturn, 1) := by decide +kernel
theorem zd_R_stands_0 : decode zb_R_stands 0 = .ok (.aload_n 0, 1) := by decide +kernel
theorem zd_R_stands_1 : decode zb_R_stands 1 = .ok (.iconst 0, 1) := by decide +kernel
theorem zd_R_stands_2 : decode zb_R_stands 2 = .ok (.putfield 72, 3) := by decide +kernel
theorem zd_R_stands_5 : decode zb_R_stands 5 = .ok (.aload_n 0, 1) := by decide +kernel
theorem zd_R_stands_6 : decode zb_R_stands 6 = .ok (.iload_n 1, 1) := by decide +kernel
theorem zd_R_stands_7 : decode zb_R_stands 7 = .ok (.invokevirtual 82, 3) := by decide +kernel
theorem zd_R_stands_10 : decode zb_R_stands 10 = .ok (.ifCond .eq 12, 3) := by decide +kernel
