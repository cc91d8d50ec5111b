theorem zd_W_init_0 : decode zb_W_init 0 = .ok (.aload_n 0, 1) := by decide +kernel
theorem zd_W_init_1 : decode zb_W_init 1 = .ok (.invokespecial 3, 3) := by decide +kernel
theorem zd_W_init_4 : decode zb_W_init 4 = .ok (.aload_n 0, 1) := by decide +kernel
theorem zd_W_init_5 : decode zb_W_init 5 = .ok (.new 9, 3) := by decide +kernel
theorem zd_W_init_8 : decode zb_W_init 8 = .ok (.dup, 1) := by decide +kernel
theorem zd_W_init_9 : decode zb_W_init 9 = .ok (.invokespecial 11, 3) := by decide +kernel
theorem zd_W_init_12 : decode zb_W_init 12 = .ok (.putfield 12, 3) := by decide +kernel
theorem zd_W_init_15 : decode zb_W_init 15 = .ok (.aload_n 0, 1) := by decide +kernel
theorem zd_W_init_16 : decode zb_W_init 16 = .ok (.new 16, 3) := by decide +kernel
theorem zd_W_init_19 : decode zb_W_init 19 = .ok (.dup, 1) := by decide +kernel
theorem zd_W_init_20 : decode zb_W_init 20 = .ok (.invokespecial 18, 3) := by decide +kernel
theorem zd_W_init_23 : decode zb_W_init 23 = .ok (.putfield 19, 3) := by decide +kernel
theorem zd_W_init_26 : decode zb_W_init 26 = .ok (.aload_n 0, 1) := by decide +kernel
theorem zd_W_init_27 : decode zb_W_init 27 = .ok (.new 23, 3) := by decide +kernel
theorem zd_W_init_30 : decode zb_W_init 30 = .ok (.dup, 1) := by decide +kernel
theorem zd_W_init_31 : decode zb_W_init 31 = .ok (.invokespecial 25, 3) := by decide +kernel
theorem zd_W_init_34 : decode zb_W_init 34 = .ok (.putfield 26, 3) := by decide +kernel
theorem zd_W_init_37 : decode zb_W_init 37 = .ok (.aload_n 0, 1) := by decide +kernel
theorem zd_W_init_38 : decode zb_W_init 38 = .ok (.iconst 5, 1) := by decide +kernel
theorem zd_W_init_39 : decode zb_W_init 39 = .ok (.newarray .int, 2) := by decide +kernel
theorem zd_W_init_41 : decode zb_W_init 41 = .ok (.putfield 30, 3) := by decide +kernel
theorem zd_W_init_44 : decode zb_W_init 44 = .ok (.aload_n 0, 1) := by decide +kernel
theorem zd_W_init_45 : decode zb_W_init 45 = .ok (.getfield 30, 3) := by decide +kernel
theorem zd_W_init_48 : decode zb_W_init 48 = .ok (.iconst (-1), 1) := by decide +kernel
theorem zd_W_init_49 : decode zb_W_init 49 = .ok (.invokestatic 34, 3) := by decide +kernel
theorem zd_W_init_52 : decode zb_W_init 52 = .ok (.return_, 1) := by decide +kernel
theorem zd_T_init_0 : decode zb_T_init 0 = .ok (.aload_n 0, 1) := by decide +kernel
theorem zd_T_init_1 : decode zb_T_init 1 = .ok (.invokespecial 3, 3) := by decide +kernel
theorem zd_T_init_4 : decode zb_T_init 4 = .ok (.aload_n 0, 1) := by decide +kernel
theorem zd_T_init_5 : decode zb_T_init 5 = .ok (.bipush 20, 2) := by decide +kernel
theorem zd_T_init_7 : decode zb_T_init 7 = .ok (.newarray .long, 2) := by decide +kernel
theorem zd_T_init_9 : decode zb_T_init 9 = .ok (.putfield 9, 3) := by decide +kernel
theorem zd_T_init_12 : decode zb_T_init 12 = .ok (.aload_n 0, 1) := by decide +kernel
theorem zd_T_init_13 : decode zb_T_init 13 = .ok (.bipush 20, 2) := by decide +kernel
theorem zd_T_init_15 : decode zb_T_init 15 = .ok (.newarray .int, 2) := by decide +kernel
theorem zd_T_init_17 : decode zb_T_init 17 = .ok (.putfield 15, 3) := by decide +kernel
theorem zd_T_init_20 : decode zb_T_init 20 = .ok (.aload_n 0, 1) := by decide +kernel
theorem zd_T_init_21 : decode zb_T_init 21 = .ok (.bipush 20, 2) := by decide +kernel
theorem zd_T_init_23 : decode zb_T_init 23 = .ok (.newarray .int, 2) := by decide +kernel
theorem zd_T_init_25 : decode zb_T_init 25 = .ok (.putfield 19, 3) := by decide +kernel
theorem zd_T_init_28 : decode zb_T_init 28 = .ok (.aload_n 0, 1) := by decide +kernel
theorem zd_T_init_29 : decode zb_T_init 29 = .ok (.sipush 240, 3) := by decide +kernel
theorem zd_T_init_32 : decode zb_T_init 32 = .ok (.newarray .int, 2) := by decide +kernel
theorem zd_T_init_34 : decode zb_T_init 34 = .ok (.putfield 22, 3) := by decide +kernel
theorem zd_T_init_37 : decode zb_T_init 37 = .ok (.aload_n 0, 1) := by decide +kernel
theorem zd_T_init_38 : decode zb_T_init 38 = .ok (.bipush 60, 2) := by decide +kernel
theorem zd_T_init_40 : decode zb_T_init 40 = .ok (.newarray .int, 2) := by decide +kernel
theorem zd_T_init_42 : decode zb_T_init 42 = .ok (.putfield 25, 3) := by decide +kernel
theorem zd_T_init_45 : decode zb_T_init 45 = .ok (.aload_n 0, 1) := by decide +kernel
theorem zd_T_init_46 : decode zb_T_init 46 = .ok (.bipush 20, 2) := by decide +kernel
theorem zd_T_init_48 : decode zb_T_init 48 = .ok (.newarray .int, 2) := by decide +kernel
theorem zd_T_init_50 : decode zb_T_init 50 = .ok (.putfield 28, 3) := by decide +kernel
theorem zd_T_init_53 : decode zb_T_init 53 = .ok (.return_, 1) := by decide +kernel
theorem zd_A_init_0 : decode zb_A_init 0 = .ok (.aload_n 0, 1) := by decide +kernel
theorem zd_A_init_1 : decode zb_A_init 1 = .ok (.invokespecial 3, 3) := by decide +kernel
theorem zd_A_init_4 : decode zb_A_init 4 = .ok (.aload_n 0, 1) := by decide +kernel
theorem zd_A_init_5 : decode zb_A_init 5 = .ok (.bipush 8, 2) := by decide +kernel
theorem zd_A_init_7 : decode zb_A_init 7 = .ok (.newarray .int, 2) := by decide +kernel
theorem zd_A_init_9 : decode zb_A_init 9 = .ok (.putfield 9, 3) := by decide +kernel
theorem zd_A_init_12 : decode zb_A_init 12 = .ok (.aload_n 0, 1) := by decide +kernel
theorem zd_A_init_13 : decode zb_A_init 13 = .ok (.bipush 8, 2) := by decide +kernel
theorem zd_A_init_15 : decode zb_A_init 15 = .ok (.newarray .int, 2) := by decide +kernel
theorem zd_A_init_17 : decode zb_A_init 17 = .ok (.putfield 15, 3) := by decide +kernel
theorem zd_A_init_20 : decode zb_A_init 20 = .ok (.aload_n 0, 1) := by decide +kernel
theorem zd_A_init_21 : decode zb_A_init 21 = .ok (.bipush 8, 2) := by decide +kernel
theorem zd_A_init_23 : decode zb_A_init 23 = .ok (.newarray .int, 2) := by decide +kernel
theorem zd_A_init_25 : decode zb_A_init 25 = .ok (.putfield 18, 3) := by decide +kernel
theorem zd_A_init_28 : decode zb_A_init 28 = .ok (.aload_n 0, 1) := by decide +kernel
theorem zd_A_init_29 : decode zb_A_init 29 = .ok (.bipush 8, 2) := by decide +kernel
theorem zd_A_init_31 : decode zb_A_init 31 = .ok (.newarray .int, 2) := by decide +kernel
theorem zd_A_init_33 : decode zb_A_init 33 = .ok (.putfield 21, 3) := by decide +kernel
theorem zd_A_init_36 : decode zb_A_init 36 = .ok (.aload_n 0, 1) := by decide +kernel
theorem zd_A_init_37 : decode zb_A_init 37 = .ok (.bipush 8, 2) := by decide +kernel
theorem zd_A_init_39 : decode zb_A_init 39 = .ok (.newarray .int, 2) := by decide +kernel
theorem zd_A_init_41 : decode zb_A_init 41 = .ok (.putfield 24, 3) := by decide +kernel
theorem zd_A_init_44 : decode zb_A_init 44 = .ok (.aload_n 0, 1) := by decide +kernel
theorem zd_A_init_45 : decode zb_A_init 45 = .ok (.bipush 24, 2) := by decide +kernel
theorem zd_A_init_47 : decode zb_A_init 47 = .ok (.newarray .int, 2) := by decide +kernel
theorem zd_A_init_49 : decode zb_A_init 49 = .ok (.putfield 27, 3) := by decide +kernel
theorem zd_A_init_52 : decode zb_A_init 52 = .ok (.aload_n 0, 1) := by decide +kernel
theorem zd_A_init_53 : decode zb_A_init 53 = .ok (.bipush 8, 2) := by decide +kernel
theorem zd_A_init_55 : decode zb_A_init 55 = .ok (.newarray .int, 2) := by decide +kernel
theorem zd_A_init_57 : decode zb_A_init 57 = .ok (.putfield 30, 3) := by decide +kernel
theorem zd_A_init_60 : decode zb_A_init 60 = .ok (.aload_n 0, 1) := by decide +kernel
theorem zd_A_init_61 : decode zb_A_init 61 = .ok (.bipush 8, 2) := by decide +kernel
theorem zd_A_init_63 : decode zb_A_init 63 = .ok (.newarray .int, 2) := by decide +kernel
theorem zd_A_init_65 : decode zb_A_init 65 = .ok (.putfield 33, 3) := by decide +kernel
theorem zd_A_init_68 : decode zb_A_init 68 = .ok (.return_, 1) := by decide +kernel
theorem zd_M_init_0 : decode zb_M_init 0 = .ok (.aload_n 0, 1) := by decide +kernel
theorem zd_M_init_1 : decode zb_M_init 1 = .ok (.invokespecial 3, 3) := by decide +kernel
theorem zd_M_init_4 : decode zb_M_init 4 = .ok (.aload_n 0, 1) := by decide +kernel
theorem zd_M_init_5 : decode zb_M_init 5 = .ok (.sipush 160, 3) := by decide +kernel
theorem zd_M_init_8 : decode zb_M_init 8 = .ok (.newarray .int, 2) := by decide +kernel
theorem zd_M_init_10 : decode zb_M_init 10 = .ok (.putfield 11, 3) := by decide +kernel
theorem zd_M_init_13 : decode zb_M_init 13 = .ok (.aload_n 0, 1) := by decide +kernel
theorem zd_M_init_14 : decode zb_M_init 14 = .ok (.sipush 160, 3) := by decide +kernel
theorem zd_M_init_17 : decode zb_M_init 17 = .ok (.newarray .int, 2) := by decide +kernel
theorem zd_M_init_19 : decode zb_M_init 19 = .ok (.putfield 15, 3) := by decide +kernel
theorem zd_M_init_22 : decode zb_M_init 22 = .ok (.aload_n 0, 1) := by decide +kernel
theorem zd_M_init_23 : decode zb_M_init 23 = .ok (.sipush 160, 3) := by decide +kernel
theorem zd_M_init_26 : decode zb_M_init 26 = .ok (.newarray .int, 2) := by decide +kernel
theorem zd_M_init_28 : decode zb_M_init 28 = .ok (.putfield 18, 3) := by decide +kernel
theorem zd_M_init_31 : decode zb_M_init 31 = .ok (.aload_n 0, 1) := by decide +kernel
theorem zd_M_init_32 : decode zb_M_init 32 = .ok (.sipush 2560, 3) := by decide +kernel
theorem zd_M_init_35 : decode zb_M_init 35 = .ok (.newarray .long, 2) := by decide +kernel
theorem zd_M_init_37 : decode zb_M_init 37 = .ok (.putfield 21, 3) := by decide +kernel
theorem zd_M_init_40 : decode zb_M_init 40 = .ok (.aload_n 0, 1) := by decide +kernel
theorem zd_M_init_41 : decode zb_M_init 41 = .ok (.sipush 200, 3) := by decide +kernel
theorem zd_M_init_44 : decode zb_M_init 44 = .ok (.newarray .int, 2) := by decide +kernel
theorem zd_M_init_46 : decode zb_M_init 46 = .ok (.putfield 25, 3) := by decide +kernel
theorem zd_M_init_49 : decode zb_M_init 49 = .ok (.aload_n 0, 1) := by decide +kernel
theorem zd_M_init_50 : decode zb_M_init 50 = .ok (.sipush 200, 3) := by decide +kernel
theorem zd_M_init_53 : decode zb_M_init 53 = .ok (.newarray .int, 2) := by decide +kernel
theorem zd_M_init_55 : decode zb_M_init 55 = .ok (.putfield 28, 3) := by decide +kernel
theorem zd_M_init_58 : decode zb_M_init 58 = .ok (.aload_n 0, 1) := by decide +kernel
theorem zd_M_init_59 : decode zb_M_init 59 = .ok (.getfield 25, 3) := by decide +kernel
theorem zd_M_init_62 : decode zb_M_init 62 = .ok (.iconst (-1), 1) := by decide +kernel
theorem zd_M_init_63 : decode zb_M_init 63 = .ok (.invokestatic 31, 3) := by decide +kernel
theorem zd_M_init_66 : decode zb_M_init 66 = .ok (.return_, 1) := by decide +kernel
theorem zd_Ja_fill_0 : decode zb_Ja_fill 0 = .ok (.iconst 0, 1) := by decide +kernel
theorem zd_Ja_fill_1 : decode zb_Ja_fill 1 = .ok (.istore_n 2, 1) := by decide +kernel
theorem zd_Ja_fill_2 : decode zb_Ja_fill 2 = .ok (.aload_n 0, 1) := by decide +kernel
theorem zd_Ja_fill_3 : decode zb_Ja_fill 3 = .ok (.arraylength, 1) := by decide +kernel
theorem zd_Ja_fill_4 : decode zb_Ja_fill 4 = .ok (.istore_n 3, 1) := by decide +kernel
theorem zd_Ja_fill_5 : decode zb_Ja_fill 5 = .ok (.iload_n 2, 1) := by decide +kernel
theorem zd_Ja_fill_6 : decode zb_Ja_fill 6 = .ok (.iload_n 3, 1) := by decide +kernel
theorem zd_Ja_fill_7 : decode zb_Ja_fill 7 = .ok (.if_icmp .ge 13, 3) := by decide +kernel
theorem zd_Ja_fill_10 : decode zb_Ja_fill 10 = .ok (.aload_n 0, 1) := by decide +kernel
theorem zd_Ja_fill_11 : decode zb_Ja_fill 11 = .ok (.iload_n 2, 1) := by decide +kernel
theorem zd_Ja_fill_12 : decode zb_Ja_fill 12 = .ok (.iload_n 1, 1) := by decide +kernel
theorem zd_Ja_fill_13 : decode zb_Ja_fill 13 = .ok (.iastore, 1) := by decide +kernel
theorem zd_Ja_fill_14 : decode zb_Ja_fill 14 = .ok (.iinc 2 1, 3) := by decide +kernel
theorem zd_Ja_fill_17 : decode zb_Ja_fill 17 = .ok (.goto (-12), 3) := by decide +kernel
theorem zd_Ja_fill_20 : decode zb_Ja_fill 20 = .ok (.return_, 1) := by decide +kernel
theorem zd_W_target_0 : decode zb_W_target 0 = .ok (.aload_n 0, 1) := by decide +kernel
theorem zd_W_target_1 : decode zb_W_target 1 = .ok (.getfield 12, 3) := by decide +kernel
theorem zd_W_target_4 : decode zb_W_target 4 = .ok (.lload_n 1, 1) := by decide +kernel
theorem zd_W_target_5 : decode zb_W_target 5 = .ok (.iload_n 3, 1) := by decide +kernel
theorem zd_W_target_6 : decode zb_W_target 6 = .ok (.sipush 255, 3) := by decide +kernel
theorem zd_W_target_9 : decode zb_W_target 9 = .ok (.iand, 1) := by decide +kernel
theorem zd_W_target_10 : decode zb_W_target 10 = .ok (.invokevirtual 40, 3) := by decide +kernel
theorem zd_W_target_13 : decode zb_W_target 13 = .ok (.ireturn, 1) := by decide +kernel
theorem zd_T_open_0 : decode zb_T_open 0 = .ok (.aload_n 0, 1) := by decide +kernel
theorem zd_T_open_1 : decode zb_T_open 1 = .ok (.getfield 31, 3) := by decide +kernel
theorem zd_T_open_4 : decode zb_T_open 4 = .ok (.bipush 20, 2) := by decide +kernel
theorem zd_T_open_6 : decode zb_T_open 6 = .ok (.if_icmp .lt 5, 3) := by decide +kernel
theorem zd_T_open_9 : decode zb_T_open 9 = .ok (.iconst (-1), 1) := by decide +kernel
theorem zd_T_open_10 : decode zb_T_open 10 = .ok (.ireturn, 1) := by decide +kernel
theorem zd_T_open_11 : decode zb_T_open 11 = .ok (.aload_n 0, 1) := by decide +kernel
theorem zd_T_open_12 : decode zb_T_open 12 = .ok (.getfield 31, 3) := by decide +kernel
theorem zd_T_open_15 : decode zb_T_open 15 = .ok (.istore 4, 2) := by decide +kernel
theorem zd_T_open_17 : decode zb_T_open 17 = .ok (.aload_n 0, 1) := by decide +kernel
theorem zd_T_open_18 : decode zb_T_open 18 = .ok (.getfield 9, 3) := by decide +kernel
theorem zd_T_open_21 : decode zb_T_open 21 = .ok (.iload 4, 2) := by decide +kernel
theorem zd_T_open_23 : decode zb_T_open 23 = .ok (.lload_n 1, 1) := by decide +kernel
theorem zd_T_open_24 : decode zb_T_open 24 = .ok (.lastore, 1) := by decide +kernel
theorem zd_T_open_25 : decode zb_T_open 25 = .ok (.aload_n 0, 1) := by decide +kernel
theorem zd_T_open_26 : decode zb_T_open 26 = .ok (.getfield 15, 3) := by decide +kernel
theorem zd_T_open_29 : decode zb_T_open 29 = .ok (.iload 4, 2) := by decide +kernel
theorem zd_T_open_31 : decode zb_T_open 31 = .ok (.iload_n 3, 1) := by decide +kernel
theorem zd_T_open_32 : decode zb_T_open 32 = .ok (.iastore, 1) := by decide +kernel
theorem zd_T_open_33 : decode zb_T_open 33 = .ok (.aload_n 0, 1) := by decide +kernel
theorem zd_T_open_34 : decode zb_T_open 34 = .ok (.getfield 19, 3) := by decide +kernel
theorem zd_T_open_37 : decode zb_T_open 37 = .ok (.iload 4, 2) := by decide +kernel
theorem zd_T_open_39 : decode zb_T_open 39 = .ok (.iload 4, 2) := by decide +kernel
theorem zd_T_open_41 : decode zb_T_open 41 = .ok (.iastore, 1) := by decide +kernel
theorem zd_T_open_42 : decode zb_T_open 42 = .ok (.aload_n 0, 1) := by decide +kernel
theorem zd_T_open_43 : decode zb_T_open 43 = .ok (.getfield 28, 3) := by decide +kernel
theorem zd_T_open_46 : decode zb_T_open 46 = .ok (.iload 4, 2) := by decide +kernel
theorem zd_T_open_48 : decode zb_T_open 48 = .ok (.iconst 1, 1) := by decide +kernel
theorem zd_T_open_49 : decode zb_T_open 49 = .ok (.iload 4, 2) := by decide +kernel
theorem zd_T_open_51 : decode zb_T_open 51 = .ok (.ishl, 1) := by decide +kernel
theorem zd_T_open_52 : decode zb_T_open 52 = .ok (.iastore, 1) := by decide +kernel
theorem zd_T_open_53 : decode zb_T_open 53 = .ok (.aload_n 0, 1) := by decide +kernel
theorem zd_T_open_54 : decode zb_T_open 54 = .ok (.dup, 1) := by decide +kernel
theorem zd_T_open_55 : decode zb_T_open 55 = .ok (.getfield 31, 3) := by decide +kernel
theorem zd_T_open_58 : decode zb_T_open 58 = .ok (.iconst 1, 1) := by decide +kernel
theorem zd_T_open_59 : decode zb_T_open 59 = .ok (.iadd, 1) := by decide +kernel
theorem zd_T_open_60 : decode zb_T_open 60 = .ok (.putfield 31, 3) := by decide +kernel
theorem zd_T_open_63 : decode zb_T_open 63 = .ok (.iload 4, 2) := by decide +kernel
theorem zd_T_open_65 : decode zb_T_open 65 = .ok (.ireturn, 1) := by decide +kernel
theorem zd_W_alias_0 : decode zb_W_alias 0 = .ok (.aload_n 0, 1) := by decide +kernel
theorem zd_W_alias_1 : decode zb_W_alias 1 = .ok (.getfield 12, 3) := by decide +kernel
theorem zd_W_alias_4 : decode zb_W_alias 4 = .ok (.iload_n 1, 1) := by decide +kernel
theorem zd_W_alias_5 : decode zb_W_alias 5 = .ok (.invokevirtual 44, 3) := by decide +kernel
theorem zd_W_alias_8 : decode zb_W_alias 8 = .ok (.ifCond .eq 14, 3) := by decide +kernel
theorem zd_W_alias_11 : decode zb_W_alias 11 = .ok (.aload_n 0, 1) := by decide +kernel
theorem zd_W_alias_12 : decode zb_W_alias 12 = .ok (.getfield 12, 3) := by decide +kernel
theorem zd_W_alias_15 : decode zb_W_alias 15 = .ok (.iload_n 1, 1) := by decide +kernel
theorem zd_W_alias_16 : decode zb_W_alias 16 = .ok (.invokevirtual 48, 3) := by decide +kernel
theorem zd_W_alias_19 : decode zb_W_alias 19 = .ok (.goto 4, 3) := by decide +kernel
theorem zd_W_alias_22 : decode zb_W_alias 22 = .ok (.iconst (-1), 1) := by decide +kernel
theorem zd_W_alias_23 : decode zb_W_alias 23 = .ok (.ireturn, 1) := by decide +kernel
theorem zd_T_has_0 : decode zb_T_has 0 = .ok (.iload_n 1, 1) := by decide +kernel
theorem zd_T_has_1 : decode zb_T_has 1 = .ok (.ifCond .lt 15, 3) := by decide +kernel
theorem zd_T_has_4 : decode zb_T_has 4 = .ok (.iload_n 1, 1) := by decide +kernel
theorem zd_T_has_5 : decode zb_T_has 5 = .ok (.aload_n 0, 1) := by decide +kernel
theorem zd_T_has_6 : decode zb_T_has 6 = .ok (.getfield 31, 3) := by decide +kernel
theorem zd_T_has_9 : decode zb_T_has 9 = .ok (.if_icmp .ge 7, 3) := by decide +kernel
theorem zd_T_has_12 : decode zb_T_has 12 = .ok (.iconst 1, 1) := by decide +kernel
theorem zd_T_has_13 : decode zb_T_has 13 = .ok (.goto 4, 3) := by decide +kernel
theorem zd_T_has_16 : decode zb_T_has 16 = .ok (.iconst 0, 1) := by decide +kernel
theorem zd_T_has_17 : decode zb_T_has 17 = .ok (.ireturn, 1) := by decide +kernel
theorem zd_T_openAlias_0 : decode zb_T_openAlias 0 = .ok (.aload_n 0, 1) := by decide +kernel
theorem zd_T_openAlias_1 : decode zb_T_openAlias 1 = .ok (.getfield 31, 3) := by decide +kernel
theorem zd_T_openAlias_4 : decode zb_T_openAlias 4 = .ok (.bipush 20, 2) := by decide +kernel
theorem zd_T_openAlias_6 : decode zb_T_openAlias 6 = .ok (.if_icmp .lt 5, 3) := by decide +kernel
theorem zd_T_openAlias_9 : decode zb_T_openAlias 9 = .ok (.iconst (-1), 1) := by decide +kernel
theorem zd_T_openAlias_10 : decode zb_T_openAlias 10 = .ok (.ireturn, 1) := by decide +kernel
theorem zd_T_openAlias_11 : decode zb_T_openAlias 11 = .ok (.aload_n 0, 1) := by decide +kernel
theorem zd_T_openAlias_12 : decode zb_T_openAlias 12 = .ok (.getfield 31, 3) := by decide +kernel
theorem zd_T_openAlias_15 : decode zb_T_openAlias 15 = .ok (.istore_n 2, 1) := by decide +kernel
theorem zd_T_openAlias_16 : decode zb_T_openAlias 16 = .ok (.aload_n 0, 1) := by decide +kernel
theorem zd_T_openAlias_17 : decode zb_T_openAlias 17 = .ok (.getfield 19, 3) := by decide +kernel
theorem zd_T_openAlias_20 : decode zb_T_openAlias 20 = .ok (.iload_n 2, 1) := by decide +kernel
theorem zd_T_openAlias_21 : decode zb_T_openAlias 21 = .ok (.aload_n 0, 1) := by decide +kernel
theorem zd_T_openAlias_22 : decode zb_T_openAlias 22 = .ok (.getfield 19, 3) := by decide +kernel
theorem zd_T_openAlias_25 : decode zb_T_openAlias 25 = .ok (.iload_n 1, 1) := by decide +kernel
theorem zd_T_openAlias_26 : decode zb_T_openAlias 26 = .ok (.iaload, 1) := by decide +kernel
theorem zd_T_openAlias_27 : decode zb_T_openAlias 27 = .ok (.iastore, 1) := by decide +kernel
theorem zd_T_openAlias_28 : decode zb_T_openAlias 28 = .ok (.aload_n 0, 1) := by decide +kernel
theorem zd_T_openAlias_29 : decode zb_T_openAlias 29 = .ok (.dup, 1) := by decide +kernel
theorem zd_T_openAlias_30 : decode zb_T_openAlias 30 = .ok (.getfield 31, 3) := by decide +kernel
theorem zd_T_openAlias_33 : decode zb_T_openAlias 33 = .ok (.iconst 1, 1) := by decide +kernel
theorem zd_T_openAlias_34 : decode zb_T_openAlias 34 = .ok (.iadd, 1) := by decide +kernel
theorem zd_T_openAlias_35 : decode zb_T_openAlias 35 = .ok (.putfield 31, 3) := by decide +kernel
theorem zd_T_openAlias_38 : decode zb_T_openAlias 38 = .ok (.iload_n 2, 1) := by decide +kernel
theorem zd_T_openAlias_39 : decode zb_T_openAlias 39 = .ok (.ireturn, 1) := by decide +kernel
theorem zd_W_stands_0 : decode zb_W_stands 0 = .ok (.aload_n 0, 1) := by decide +kernel
theorem zd_W_stands_1 : decode zb_W_stands 1 = .ok (.getfield 12, 3) := by decide +kernel
theorem zd_W_stands_4 : decode zb_W_stands 4 = .ok (.iload_n 1, 1) := by decide +kernel
theorem zd_W_stands_5 : decode zb_W_stands 5 = .ok (.invokevirtual 44, 3) := by decide +kernel
theorem zd_W_stands_8 : decode zb_W_stands 8 = .ok (.ifCond .eq 14, 3) := by decide +kernel
theorem zd_W_stands_11 : decode zb_W_stands 11 = .ok (.aload_n 0, 1) := by decide +kernel
theorem zd_W_stands_12 : decode zb_W_stands 12 = .ok (.getfield 12, 3) := by decide +kernel
theorem zd_W_stands_15 : decode zb_W_stands 15 = .ok (.iload_n 1, 1) := by decide +kernel
theorem zd_W_stands_16 : decode zb_W_stands 16 = .ok (.invokevirtual 52, 3) := by decide +kernel
theorem zd_W_stands_19 : decode zb_W_stands 19 = .ok (.goto 4, 3) := by decide +kernel
theorem zd_W_stands_22 : decode zb_W_stands 22 = .ok (.iconst (-1), 1) := by decide +kernel
theorem zd_W_stands_23 : decode zb_W_stands 23 = .ok (.ireturn, 1) := by decide +kernel
theorem zd_T_end_0 : decode zb_T_end 0 = .ok (.aload_n 0, 1) := by decide +kernel
theorem zd_T_end_1 : decode zb_T_end 1 = .ok (.getfield 19, 3) := by decide +kernel
theorem zd_T_end_4 : decode zb_T_end 4 = .ok (.iload_n 1, 1) := by decide +kernel
theorem zd_T_end_5 : decode zb_T_end 5 = .ok (.iaload, 1) := by decide +kernel
theorem zd_T_end_6 : decode zb_T_end 6 = .ok (.ireturn, 1) := by decide +kernel
theorem zd_W_add_0 : decode zb_W_add 0 = .ok (.aload_n 0, 1) := by decide +kernel
theorem zd_W_add_1 : decode zb_W_add 1 = .ok (.getfield 12, 3) := by decide +kernel
theorem zd_W_add_4 : decode zb_W_add 4 = .ok (.iload_n 1, 1) := by decide +kernel
theorem zd_W_add_5 : decode zb_W_add 5 = .ok (.invokevirtual 44, 3) := by decide +kernel
theorem zd_W_add_8 : decode zb_W_add 8 = .ok (.ifCond .eq 25, 3) := by decide +kernel
theorem zd_W_add_11 : decode zb_W_add 11 = .ok (.aload_n 0, 1) := by decide +kernel
theorem zd_W_add_12 : decode zb_W_add 12 = .ok (.getfield 12, 3) := by decide +kernel
theorem zd_W_add_15 : decode zb_W_add 15 = .ok (.iload_n 3, 1) := by decide +kernel
theorem zd_W_add_16 : decode zb_W_add 16 = .ok (.invokevirtual 44, 3) := by decide +kernel
theorem zd_W_add_19 : decode zb_W_add 19 = .ok (.ifCond .eq 14, 3) := by decide +kernel
theorem zd_W_add_22 : decode zb_W_add 22 = .ok (.aload_n 0, 1) := by decide +kernel
theorem zd_W_add_23 : decode zb_W_add 23 = .ok (.getfield 12, 3) := by decide +kernel
theorem zd_W_add_26 : decode zb_W_add 26 = .ok (.iload_n 1, 1) := by decide +kernel
theorem zd_W_add_27 : decode zb_W_add 27 = .ok (.invokevirtual 55, 3) := by decide +kernel
theorem zd_W_add_30 : decode zb_W_add 30 = .ok (.ifCond .eq 5, 3) := by decide +kernel
theorem zd_W_add_33 : decode zb_W_add 33 = .ok (.iconst 0, 1) := by decide +kernel
theorem zd_W_add_34 : decode zb_W_add 34 = .ok (.ireturn, 1) := by decide +kernel
theorem zd_W_add_35 : decode zb_W_add 35 = .ok (.iload_n 2, 1) := by decide +kernel
theorem zd_W_add_36 : decode zb_W_add 36 = .ok (.ifCond .lt 13, 3) := by decide +kernel
theorem zd_W_add_39 : decode zb_W_add 39 = .ok (.iload_n 2, 1) := by decide +kernel
theorem zd_W_add_40 : decode zb_W_add 40 = .ok (.iconst 3, 1) := by decide +kernel
theorem zd_W_add_41 : decode zb_W_add 41 = .ok (.if_icmp .ge 8, 3) := by decide +kernel
theorem zd_W_add_44 : decode zb_W_add 44 = .ok (.iload_n 3, 1) := by decide +kernel
theorem zd_W_add_45 : decode zb_W_add 45 = .ok (.iload_n 1, 1) := by decide +kernel
theorem zd_W_add_46 : decode zb_W_add 46 = .ok (.if_icmp .lt 5, 3) := by decide +kernel
theorem zd_W_add_49 : decode zb_W_add 49 = .ok (.iconst 0, 1) := by decide +kernel
theorem zd_W_add_50 : decode zb_W_add 50 = .ok (.ireturn, 1) := by decide +kernel
theorem zd_W_add_51 : decode zb_W_add 51 = .ok (.aload_n 0, 1) := by decide +kernel
theorem zd_W_add_52 : decode zb_W_add 52 = .ok (.getfield 12, 3) := by decide +kernel
theorem zd_W_add_55 : decode zb_W_add 55 = .ok (.iload_n 1, 1) := by decide +kernel
theorem zd_W_add_56 : decode zb_W_add 56 = .ok (.iload_n 2, 1) := by decide +kernel
theorem zd_W_add_57 : decode zb_W_add 57 = .ok (.aload_n 0, 1) := by decide +kernel
theorem zd_W_add_58 : decode zb_W_add 58 = .ok (.getfield 12, 3) := by decide +kernel
theorem zd_W_add_61 : decode zb_W_add 61 = .ok (.iload_n 3, 1) := by decide +kernel
theorem zd_W_add_62 : decode zb_W_add 62 = .ok (.invokevirtual 52, 3) := by decide +kernel
theorem zd_W_add_65 : decode zb_W_add 65 = .ok (.invokevirtual 58, 3) := by decide +kernel
theorem zd_W_add_68 : decode zb_W_add 68 = .ok (.ifCond .ne 5, 3) := by decide +kernel
theorem zd_W_add_71 : decode zb_W_add 71 = .ok (.iconst 0, 1) := by decide +kernel
theorem zd_W_add_72 : decode zb_W_add 72 = .ok (.ireturn, 1) := by decide +kernel
theorem zd_W_add_73 : decode zb_W_add 73 = .ok (.aload_n 0, 1) := by decide +kernel
theorem zd_W_add_74 : decode zb_W_add 74 = .ok (.iload_n 1, 1) := by decide +kernel
theorem zd_W_add_75 : decode zb_W_add 75 = .ok (.invokevirtual 62, 3) := by decide +kernel
theorem zd_W_add_78 : decode zb_W_add 78 = .ok (.iconst 1, 1) := by decide +kernel
theorem zd_W_add_79 : decode zb_W_add 79 = .ok (.ireturn, 1) := by decide +kernel
theorem zd_T_isAlias_0 : decode zb_T_isAlias 0 = .ok (.aload_n 0, 1) := by decide +kernel
theorem zd_T_isAlias_1 : decode zb_T_isAlias 1 = .ok (.getfield 19, 3) := by decide +kernel
theorem zd_T_isAlias_4 : decode zb_T_isAlias 4 = .ok (.iload_n 1, 1) := by decide +kernel
theorem zd_T_isAlias_5 : decode zb_T_isAlias 5 = .ok (.iaload, 1) := by decide +kernel
theorem zd_T_isAlias_6 : decode zb_T_isAlias 6 = .ok (.iload_n 1, 1) := by decide +kernel
theorem zd_T_isAlias_7 : decode zb_T_isAlias 7 = .ok (.if_icmp .eq 7, 3) := by decide +kernel
theorem zd_T_isAlias_10 : decode zb_T_isAlias 10 = .ok (.iconst 1, 1) := by decide +kernel
theorem zd_T_isAlias_11 : decode zb_T_isAlias 11 = .ok (.goto 4, 3) := by decide +kernel
theorem zd_T_isAlias_14 : decode zb_T_isAlias 14 = .ok (.iconst 0, 1) := by decide +kernel
theorem zd_T_isAlias_15 : decode zb_T_isAlias 15 = .ok (.ireturn, 1) := by decide +kernel
theorem zd_T_append_0 : decode zb_T_append 0 = .ok (.iload_n 1, 1) := by decide +kernel
theorem zd_T_append_1 : decode zb_T_append 1 = .ok (.iconst 3, 1) := by decide +kernel
theorem zd_T_append_2 : decode zb_T_append 2 = .ok (.imul, 1) := by decide +kernel
theorem zd_T_append_3 : decode zb_T_append 3 = .ok (.iload_n 2, 1) := by decide +kernel
theorem zd_T_append_4 : decode zb_T_append 4 = .ok (.iadd, 1) := by decide +kernel
theorem zd_T_append_5 : decode zb_T_append 5 = .ok (.istore 4, 2) := by decide +kernel
theorem zd_T_append_7 : decode zb_T_append 7 = .ok (.aload_n 0, 1) := by decide +kernel
theorem zd_T_append_8 : decode zb_T_append 8 = .ok (.getfield 25, 3) := by decide +kernel
theorem zd_T_append_11 : decode zb_T_append 11 = .ok (.iload 4, 2) := by decide +kernel
theorem zd_T_append_13 : decode zb_T_append 13 = .ok (.iaload, 1) := by decide +kernel
theorem zd_T_append_14 : decode zb_T_append 14 = .ok (.istore 5, 2) := by decide +kernel
theorem zd_T_append_16 : decode zb_T_append 16 = .ok (.iload 5, 2) := by decide +kernel
theorem zd_T_append_18 : decode zb_T_append 18 = .ok (.iconst 4, 1) := by decide +kernel
theorem zd_T_append_19 : decode zb_T_append 19 = .ok (.if_icmp .lt 5, 3) := by decide +kernel
theorem zd_T_append_22 : decode zb_T_append 22 = .ok (.iconst 0, 1) := by decide +kernel
theorem zd_T_append_23 : decode zb_T_append 23 = .ok (.ireturn, 1) := by decide +kernel
theorem zd_T_append_24 : decode zb_T_append 24 = .ok (.aload_n 0, 1) := by decide +kernel
theorem zd_T_append_25 : decode zb_T_append 25 = .ok (.getfield 22, 3) := by decide +kernel
theorem zd_T_append_28 : decode zb_T_append 28 = .ok (.iload 4, 2) := by decide +kernel
theorem zd_T_append_30 : decode zb_T_append 30 = .ok (.iconst 4, 1) := by decide +kernel
theorem zd_T_append_31 : decode zb_T_append 31 = .ok (.imul, 1) := by decide +kernel
theorem zd_T_append_32 : decode zb_T_append 32 = .ok (.iload 5, 2) := by decide +kernel
theorem zd_T_append_34 : decode zb_T_append 34 = .ok (.iadd, 1) := by decide +kernel
theorem zd_T_append_35 : decode zb_T_append 35 = .ok (.iload_n 3, 1) := by decide +kernel
theorem zd_T_append_36 : decode zb_T_append 36 = .ok (.iastore, 1) := by decide +kernel
theorem zd_T_append_37 : decode zb_T_append 37 = .ok (.aload_n 0, 1) := by decide +kernel
theorem zd_T_append_38 : decode zb_T_append 38 = .ok (.getfield 25, 3) := by decide +kernel
theorem zd_T_append_41 : decode zb_T_append 41 = .ok (.iload 4, 2) := by decide +kernel
theorem zd_T_append_43 : decode zb_T_append 43 = .ok (.iload 5, 2) := by decide +kernel
theorem zd_T_append_45 : decode zb_T_append 45 = .ok (.iconst 1, 1) := by decide +kernel
theorem zd_T_append_46 : decode zb_T_append 46 = .ok (.iadd, 1) := by decide +kernel
theorem zd_T_append_47 : decode zb_T_append 47 = .ok (.iastore, 1) := by decide +kernel
theorem zd_T_append_48 : decode zb_T_append 48 = .ok (.iconst 0, 1) := by decide +kernel
theorem zd_T_append_49 : decode zb_T_append 49 = .ok (.istore 6, 2) := by decide +kernel
theorem zd_T_append_51 : decode zb_T_append 51 = .ok (.iload 6, 2) := by decide +kernel
theorem zd_T_append_53 : decode zb_T_append 53 = .ok (.aload_n 0, 1) := by decide +kernel
theorem zd_T_append_54 : decode zb_T_append 54 = .ok (.getfield 31, 3) := by decide +kernel
theorem zd_T_append_57 : decode zb_T_append 57 = .ok (.if_icmp .ge 35, 3) := by decide +kernel
theorem zd_T_append_60 : decode zb_T_append 60 = .ok (.aload_n 0, 1) := by decide +kernel
theorem zd_T_append_61 : decode zb_T_append 61 = .ok (.iload 6, 2) := by decide +kernel
theorem zd_T_append_63 : decode zb_T_append 63 = .ok (.iload_n 1, 1) := by decide +kernel
theorem zd_T_append_64 : decode zb_T_append 64 = .ok (.invokevirtual 35, 3) := by decide +kernel
theorem zd_T_append_67 : decode zb_T_append 67 = .ok (.ifCond .eq 19, 3) := by decide +kernel
theorem zd_T_append_70 : decode zb_T_append 70 = .ok (.aload_n 0, 1) := by decide +kernel
theorem zd_T_append_71 : decode zb_T_append 71 = .ok (.getfield 28, 3) := by decide +kernel
theorem zd_T_append_74 : decode zb_T_append 74 = .ok (.iload 6, 2) := by decide +kernel
theorem zd_T_append_76 : decode zb_T_append 76 = .ok (.dup2, 1) := by decide +kernel
theorem zd_T_append_77 : decode zb_T_append 77 = .ok (.iaload, 1) := by decide +kernel
theorem zd_T_append_78 : decode zb_T_append 78 = .ok (.aload_n 0, 1) := by decide +kernel
theorem zd_T_append_79 : decode zb_T_append 79 = .ok (.getfield 28, 3) := by decide +kernel
theorem zd_T_append_82 : decode zb_T_append 82 = .ok (.iload_n 3, 1) := by decide +kernel
theorem zd_T_append_83 : decode zb_T_append 83 = .ok (.iaload, 1) := by decide +kernel
theorem zd_T_append_84 : decode zb_T_append 84 = .ok (.ior, 1) := by decide +kernel
theorem zd_T_append_85 : decode zb_T_append 85 = .ok (.iastore, 1) := by decide +kernel
theorem zd_T_append_86 : decode zb_T_append 86 = .ok (.iinc 6 1, 3) := by decide +kernel
theorem zd_T_append_89 : decode zb_T_append 89 = .ok (.goto (-38), 3) := by decide +kernel
theorem zd_T_append_92 : decode zb_T_append 92 = .ok (.iconst 1, 1) := by decide +kernel
theorem zd_T_append_93 : decode zb_T_append 93 = .ok (.ireturn, 1) := by decide +kernel
theorem zd_T_leadsTo_0 : decode zb_T_leadsTo 0 = .ok (.aload_n 0, 1) := by decide +kernel
theorem zd_T_leadsTo_1 : decode zb_T_leadsTo 1 = .ok (.getfield 28, 3) := by decide +kernel
theorem zd_T_leadsTo_4 : decode zb_T_leadsTo 4 = .ok (.iload_n 1, 1) := by decide +kernel
theorem zd_T_leadsTo_5 : decode zb_T_leadsTo 5 = .ok (.iaload, 1) := by decide +kernel
theorem zd_T_leadsTo_6 : decode zb_T_leadsTo 6 = .ok (.iload_n 2, 1) := by decide +kernel
theorem zd_T_leadsTo_7 : decode zb_T_leadsTo 7 = .ok (.ishr, 1) := by decide +kernel
theorem zd_T_leadsTo_8 : decode zb_T_leadsTo 8 = .ok (.iconst 1, 1) := by decide +kernel
theorem zd_T_leadsTo_9 : decode zb_T_leadsTo 9 = .ok (.iand, 1) := by decide +kernel
theorem zd_T_leadsTo_10 : decode zb_T_leadsTo 10 = .ok (.ifCond .eq 7, 3) := by decide +kernel
theorem zd_T_leadsTo_13 : decode zb_T_leadsTo 13 = .ok (.iconst 1, 1) := by decide +kernel
theorem zd_T_leadsTo_14 : decode zb_T_leadsTo 14 = .ok (.goto 4, 3) := by decide +kernel
theorem zd_T_leadsTo_17 : decode zb_T_leadsTo 17 = .ok (.iconst 0, 1) := by decide +kernel
theorem zd_T_leadsTo_18 : decode zb_T_leadsTo 18 = .ok (.ireturn, 1) := by decide +kernel
theorem zd_W_forgetFrom_0 : decode zb_W_forgetFrom 0 = .ok (.iconst 0, 1) := by decide +kernel
theorem zd_W_forgetFrom_1 : decode zb_W_forgetFrom 1 = .ok (.istore_n 2, 1) := by decide +kernel
theorem zd_W_forgetFrom_2 : decode zb_W_forgetFrom 2 = .ok (.iload_n 2, 1) := by decide +kernel
theorem zd_W_forgetFrom_3 : decode zb_W_forgetFrom 3 = .ok (.aload_n 0, 1) := by decide +kernel
theorem zd_W_forgetFrom_4 : decode zb_W_forgetFrom 4 = .ok (.getfield 12, 3) := by decide +kernel
theorem zd_W_forgetFrom_7 : decode zb_W_forgetFrom 7 = .ok (.invokevirtual 212, 3) := by decide +kernel
theorem zd_W_forgetFrom_10 : decode zb_W_forgetFrom 10 = .ok (.if_icmp .ge 57, 3) := by decide +kernel
theorem zd_W_forgetFrom_13 : decode zb_W_forgetFrom 13 = .ok (.aload_n 0, 1) := by decide +kernel
theorem zd_W_forgetFrom_14 : decode zb_W_forgetFrom 14 = .ok (.getfield 12, 3) := by decide +kernel
theorem zd_W_forgetFrom_17 : decode zb_W_forgetFrom 17 = .ok (.iload_n 2, 1) := by decide +kernel
theorem zd_W_forgetFrom_18 : decode zb_W_forgetFrom 18 = .ok (.iload_n 1, 1) := by decide +kernel
theorem zd_W_forgetFrom_19 : decode zb_W_forgetFrom 19 = .ok (.invokevirtual 215, 3) := by decide +kernel
theorem zd_W_forgetFrom_22 : decode zb_W_forgetFrom 22 = .ok (.ifCond .eq 39, 3) := by decide +kernel
theorem zd_W_forgetFrom_25 : decode zb_W_forgetFrom 25 = .ok (.iconst 0, 1) := by decide +kernel
theorem zd_W_forgetFrom_26 : decode zb_W_forgetFrom 26 = .ok (.istore_n 3, 1) := by decide +kernel
theorem zd_W_forgetFrom_27 : decode zb_W_forgetFrom 27 = .ok (.iload_n 3, 1) := by decide +kernel
theorem zd_W_forgetFrom_28 : decode zb_W_forgetFrom 28 = .ok (.aload_n 0, 1) := by decide +kernel
theorem zd_W_forgetFrom_29 : decode zb_W_forgetFrom 29 = .ok (.getfield 19, 3) := by decide +kernel
theorem zd_W_forgetFrom_32 : decode zb_W_forgetFrom 32 = .ok (.invokevirtual 216, 3) := by decide +kernel
theorem zd_W_forgetFrom_35 : decode zb_W_forgetFrom 35 = .ok (.if_icmp .ge 26, 3) := by decide +kernel
theorem zd_W_forgetFrom_38 : decode zb_W_forgetFrom 38 = .ok (.aload_n 0, 1) := by decide +kernel
theorem zd_W_forgetFrom_39 : decode zb_W_forgetFrom 39 = .ok (.getfield 26, 3) := by decide +kernel
theorem zd_W_forgetFrom_42 : decode zb_W_forgetFrom 42 = .ok (.iload_n 2, 1) := by decide +kernel
theorem zd_W_forgetFrom_43 : decode zb_W_forgetFrom 43 = .ok (.iload_n 3, 1) := by decide +kernel
theorem zd_W_forgetFrom_44 : decode zb_W_forgetFrom 44 = .ok (.aload_n 0, 1) := by decide +kernel
theorem zd_W_forgetFrom_45 : decode zb_W_forgetFrom 45 = .ok (.getfield 19, 3) := by decide +kernel
theorem zd_W_forgetFrom_48 : decode zb_W_forgetFrom 48 = .ok (.iload_n 3, 1) := by decide +kernel
theorem zd_W_forgetFrom_49 : decode zb_W_forgetFrom 49 = .ok (.invokevirtual 176, 3) := by decide +kernel
theorem zd_W_forgetFrom_52 : decode zb_W_forgetFrom 52 = .ok (.invokevirtual 217, 3) := by decide +kernel
theorem zd_W_forgetFrom_55 : decode zb_W_forgetFrom 55 = .ok (.iinc 3 1, 3) := by decide +kernel
theorem zd_W_forgetFrom_58 : decode zb_W_forgetFrom 58 = .ok (.goto (-31), 3) := by decide +kernel
theorem zd_W_forgetFrom_61 : decode zb_W_forgetFrom 61 = .ok (.iinc 2 1, 3) := by decide +kernel
theorem zd_W_forgetFrom_64 : decode zb_W_forgetFrom 64 = .ok (.goto (-62), 3) := by decide +kernel
theorem zd_W_forgetFrom_67 : decode zb_W_forgetFrom 67 = .ok (.return_, 1) := by decide +kernel
theorem zd_T_count_0 : decode zb_T_count 0 = .ok (.aload_n 0, 1) := by decide +kernel
theorem zd_T_count_1 : decode zb_T_count 1 = .ok (.getfield 31, 3) := by decide +kernel
theorem zd_T_count_4 : decode zb_T_count 4 = .ok (.ireturn, 1) := by decide +kernel
theorem zd_A_count_0 : decode zb_A_count 0 = .ok (.aload_n 0, 1) := by decide +kernel
theorem zd_A_count_1 : decode zb_A_count 1 = .ok (.getfield 36, 3) := by decide +kernel
theorem zd_A_count_4 : decode zb_A_count 4 = .ok (.ireturn, 1) := by decide +kernel
theorem zd_A_nameOf_0 : decode zb_A_nameOf 0 = .ok (.aload_n 0, 1) := by decide +kernel
theorem zd_A_nameOf_1 : decode zb_A_nameOf 1 = .ok (.getfield 24, 3) := by decide +kernel
theorem zd_A_nameOf_4 : decode zb_A_nameOf 4 = .ok (.iload_n 1, 1) := by decide +kernel
theorem zd_A_nameOf_5 : decode zb_A_nameOf 5 = .ok (.iaload, 1) := by decide +kernel
theorem zd_A_nameOf_6 : decode zb_A_nameOf 6 = .ok (.ireturn, 1) := by decide +kernel
theorem zd_M_forget_0 : decode zb_M_forget 0 = .ok (.iload_n 1, 1) := by decide +kernel
theorem zd_M_forget_1 : decode zb_M_forget 1 = .ok (.iload_n 2, 1) := by decide +kernel
theorem zd_M_forget_2 : decode zb_M_forget 2 = .ok (.invokestatic 37, 3) := by decide +kernel
theorem zd_M_forget_5 : decode zb_M_forget 5 = .ok (.istore 4, 2) := by decide +kernel
theorem zd_M_forget_7 : decode zb_M_forget 7 = .ok (.aload_n 0, 1) := by decide +kernel
theorem zd_M_forget_8 : decode zb_M_forget 8 = .ok (.dup, 1) := by decide +kernel
theorem zd_M_forget_9 : decode zb_M_forget 9 = .ok (.getfield 41, 3) := by decide +kernel
theorem zd_M_forget_12 : decode zb_M_forget 12 = .ok (.aload_n 0, 1) := by decide +kernel
theorem zd_M_forget_13 : decode zb_M_forget 13 = .ok (.getfield 11, 3) := by decide +kernel
theorem zd_M_forget_16 : decode zb_M_forget 16 = .ok (.iload 4, 2) := by decide +kernel
theorem zd_M_forget_18 : decode zb_M_forget 18 = .ok (.iaload, 1) := by decide +kernel
theorem zd_M_forget_19 : decode zb_M_forget 19 = .ok (.invokestatic 45, 3) := by decide +kernel
theorem zd_M_forget_22 : decode zb_M_forget 22 = .ok (.isub, 1) := by decide +kernel
theorem zd_M_forget_23 : decode zb_M_forget 23 = .ok (.putfield 41, 3) := by decide +kernel
theorem zd_M_forget_26 : decode zb_M_forget 26 = .ok (.aload_n 0, 1) := by decide +kernel
theorem zd_M_forget_27 : decode zb_M_forget 27 = .ok (.getfield 11, 3) := by decide +kernel
theorem zd_M_forget_30 : decode zb_M_forget 30 = .ok (.iload 4, 2) := by decide +kernel
theorem zd_M_forget_32 : decode zb_M_forget 32 = .ok (.iconst 0, 1) := by decide +kernel
theorem zd_M_forget_33 : decode zb_M_forget 33 = .ok (.iastore, 1) := by decide +kernel
theorem zd_M_forget_34 : decode zb_M_forget 34 = .ok (.aload_n 0, 1) := by decide +kernel
theorem zd_M_forget_35 : decode zb_M_forget 35 = .ok (.getfield 15, 3) := by decide +kernel
theorem zd_M_forget_38 : decode zb_M_forget 38 = .ok (.iload 4, 2) := by decide +kernel
theorem zd_M_forget_40 : decode zb_M_forget 40 = .ok (.iconst 0, 1) := by decide +kernel
theorem zd_M_forget_41 : decode zb_M_forget 41 = .ok (.iastore, 1) := by decide +kernel
theorem zd_M_forget_42 : decode zb_M_forget 42 = .ok (.iload_n 3, 1) := by decide +kernel
theorem zd_M_forget_43 : decode zb_M_forget 43 = .ok (.iconst (-1), 1) := by decide +kernel
theorem zd_M_forget_44 : decode zb_M_forget 44 = .ok (.if_icmp .eq 25, 3) := by decide +kernel
theorem zd_M_forget_47 : decode zb_M_forget 47 = .ok (.aload_n 0, 1) := by decide +kernel
theorem zd_M_forget_48 : decode zb_M_forget 48 = .ok (.iload_n 1, 1) := by decide +kernel
theorem zd_M_forget_49 : decode zb_M_forget 49 = .ok (.iload_n 3, 1) := by decide +kernel
theorem zd_M_forget_50 : decode zb_M_forget 50 = .ok (.invokevirtual 51, 3) := by decide +kernel
theorem zd_M_forget_53 : decode zb_M_forget 53 = .ok (.iload_n 2, 1) := by decide +kernel
theorem zd_M_forget_54 : decode zb_M_forget 54 = .ok (.if_icmp .ne 15, 3) := by decide +kernel
theorem zd_M_forget_57 : decode zb_M_forget 57 = .ok (.aload_n 0, 1) := by decide +kernel
theorem zd_M_forget_58 : decode zb_M_forget 58 = .ok (.getfield 25, 3) := by decide +kernel
theorem zd_M_forget_61 : decode zb_M_forget 61 = .ok (.iload_n 1, 1) := by decide +kernel
theorem zd_M_forget_62 : decode zb_M_forget 62 = .ok (.bipush 10, 2) := by decide +kernel
theorem zd_M_forget_64 : decode zb_M_forget 64 = .ok (.imul, 1) := by decide +kernel
theorem zd_M_forget_65 : decode zb_M_forget 65 = .ok (.iload_n 3, 1) := by decide +kernel
theorem zd_M_forget_66 : decode zb_M_forget 66 = .ok (.iadd, 1) := by decide +kernel
theorem zd_M_forget_67 : decode zb_M_forget 67 = .ok (.iconst (-1), 1) := by decide +kernel
theorem zd_M_forget_68 : decode zb_M_forget 68 = .ok (.iastore, 1) := by decide +kernel
theorem zd_M_forget_69 : decode zb_M_forget 69 = .ok (.return_, 1) := by decide +kernel
theorem zd_M_pair_0 : decode zb_M_pair 0 = .ok (.iload_n 0, 1) := by decide +kernel
theorem zd_M_pair_1 : decode zb_M_pair 1 = .ok (.bipush 8, 2) := by decide +kernel
theorem zd_M_pair_3 : decode zb_M_pair 3 = .ok (.imul, 1) := by decide +kernel
theorem zd_M_pair_4 : decode zb_M_pair 4 = .ok (.iload_n 1, 1) := by decide +kernel
theorem zd_M_pair_5 : decode zb_M_pair 5 = .ok (.iadd, 1) := by decide +kernel
theorem zd_M_pair_6 : decode zb_M_pair 6 = .ok (.ireturn, 1) := by decide +kernel
theorem zd_Ji_bitCount_0 : decode zb_Ji_bitCount 0 = .ok (.iload_n 0, 1) := by decide +kernel
theorem zd_Ji_bitCount_1 : decode zb_Ji_bitCount 1 = .ok (.iload_n 0, 1) := by decide +kernel
theorem zd_Ji_bitCount_2 : decode zb_Ji_bitCount 2 = .ok (.iconst 1, 1) := by decide +kernel
theorem zd_Ji_bitCount_3 : decode zb_Ji_bitCount 3 = .ok (.iushr, 1) := by decide +kernel
theorem zd_Ji_bitCount_4 : decode zb_Ji_bitCount 4 = .ok (.ldc_w 265, 3) := by decide +kernel
theorem zd_Ji_bitCount_7 : decode zb_Ji_bitCount 7 = .ok (.iand, 1) := by decide +kernel
theorem zd_Ji_bitCount_8 : decode zb_Ji_bitCount 8 = .ok (.isub, 1) := by decide +kernel
theorem zd_Ji_bitCount_9 : decode zb_Ji_bitCount 9 = .ok (.istore_n 0, 1) := by decide +kernel
theorem zd_Ji_bitCount_10 : decode zb_Ji_bitCount 10 = .ok (.iload_n 0, 1) := by decide +kernel
theorem zd_Ji_bitCount_11 : decode zb_Ji_bitCount 11 = .ok (.ldc_w 266, 3) := by decide +kernel
theorem zd_Ji_bitCount_14 : decode zb_Ji_bitCount 14 = .ok (.iand, 1) := by decide +kernel
theorem zd_Ji_bitCount_15 : decode zb_Ji_bitCount 15 = .ok (.iload_n 0, 1) := by decide +kernel
theorem zd_Ji_bitCount_16 : decode zb_Ji_bitCount 16 = .ok (.iconst 2, 1) := by decide +kernel
theorem zd_Ji_bitCount_17 : decode zb_Ji_bitCount 17 = .ok (.iushr, 1) := by decide +kernel
theorem zd_Ji_bitCount_18 : decode zb_Ji_bitCount 18 = .ok (.ldc_w 266, 3) := by decide +kernel
theorem zd_Ji_bitCount_21 : decode zb_Ji_bitCount 21 = .ok (.iand, 1) := by decide +kernel
theorem zd_Ji_bitCount_22 : decode zb_Ji_bitCount 22 = .ok (.iadd, 1) := by decide +kernel
theorem zd_Ji_bitCount_23 : decode zb_Ji_bitCount 23 = .ok (.istore_n 0, 1) := by decide +kernel
theorem zd_Ji_bitCount_24 : decode zb_Ji_bitCount 24 = .ok (.iload_n 0, 1) := by decide +kernel
theorem zd_Ji_bitCount_25 : decode zb_Ji_bitCount 25 = .ok (.iload_n 0, 1) := by decide +kernel
theorem zd_Ji_bitCount_26 : decode zb_Ji_bitCount 26 = .ok (.iconst 4, 1) := by decide +kernel
theorem zd_Ji_bitCount_27 : decode zb_Ji_bitCount 27 = .ok (.iushr, 1) := by decide +kernel
theorem zd_Ji_bitCount_28 : decode zb_Ji_bitCount 28 = .ok (.iadd, 1) := by decide +kernel
theorem zd_Ji_bitCount_29 : decode zb_Ji_bitCount 29 = .ok (.ldc_w 267, 3) := by decide +kernel
theorem zd_Ji_bitCount_32 : decode zb_Ji_bitCount 32 = .ok (.iand, 1) := by decide +kernel
theorem zd_Ji_bitCount_33 : decode zb_Ji_bitCount 33 = .ok (.istore_n 0, 1) := by decide +kernel
theorem zd_Ji_bitCount_34 : decode zb_Ji_bitCount 34 = .ok (.iload_n 0, 1) := by decide +kernel
theorem zd_Ji_bitCount_35 : decode zb_Ji_bitCount 35 = .ok (.iload_n 0, 1) := by decide +kernel
theorem zd_Ji_bitCount_36 : decode zb_Ji_bitCount 36 = .ok (.bipush 8, 2) := by decide +kernel
theorem zd_Ji_bitCount_38 : decode zb_Ji_bitCount 38 = .ok (.iushr, 1) := by decide +kernel
theorem zd_Ji_bitCount_39 : decode zb_Ji_bitCount 39 = .ok (.iadd, 1) := by decide +kernel
theorem zd_Ji_bitCount_40 : decode zb_Ji_bitCount 40 = .ok (.istore_n 0, 1) := by decide +kernel
theorem zd_Ji_bitCount_41 : decode zb_Ji_bitCount 41 = .ok (.iload_n 0, 1) := by decide +kernel
theorem zd_Ji_bitCount_42 : decode zb_Ji_bitCount 42 = .ok (.iload_n 0, 1) := by decide +kernel
theorem zd_Ji_bitCount_43 : decode zb_Ji_bitCount 43 = .ok (.bipush 16, 2) := by decide +kernel
theorem zd_Ji_bitCount_45 : decode zb_Ji_bitCount 45 = .ok (.iushr, 1) := by decide +kernel
theorem zd_Ji_bitCount_46 : decode zb_Ji_bitCount 46 = .ok (.iadd, 1) := by decide +kernel
theorem zd_Ji_bitCount_47 : decode zb_Ji_bitCount 47 = .ok (.istore_n 0, 1) := by decide +kernel
theorem zd_Ji_bitCount_48 : decode zb_Ji_bitCount 48 = .ok (.iload_n 0, 1) := by decide +kernel
theorem zd_Ji_bitCount_49 : decode zb_Ji_bitCount 49 = .ok (.bipush 63, 2) := by decide +kernel
theorem zd_Ji_bitCount_51 : decode zb_Ji_bitCount 51 = .ok (.iand, 1) := by decide +kernel
theorem zd_Ji_bitCount_52 : decode zb_Ji_bitCount 52 = .ok (.ireturn, 1) := by decide +kernel
theorem zd_M_makerOf_0 : decode zb_M_makerOf 0 = .ok (.aload_n 0, 1) := by decide +kernel
theorem zd_M_makerOf_1 : decode zb_M_makerOf 1 = .ok (.getfield 25, 3) := by decide +kernel
theorem zd_M_makerOf_4 : decode zb_M_makerOf 4 = .ok (.iload_n 1, 1) := by decide +kernel
theorem zd_M_makerOf_5 : decode zb_M_makerOf 5 = .ok (.bipush 10, 2) := by decide +kernel
theorem zd_M_makerOf_7 : decode zb_M_makerOf 7 = .ok (.imul, 1) := by decide +kernel
theorem zd_M_makerOf_8 : decode zb_M_makerOf 8 = .ok (.iload_n 2, 1) := by decide +kernel
theorem zd_M_makerOf_9 : decode zb_M_makerOf 9 = .ok (.iadd, 1) := by decide +kernel
theorem zd_M_makerOf_10 : decode zb_M_makerOf 10 = .ok (.iaload, 1) := by decide +kernel
theorem zd_M_makerOf_11 : decode zb_M_makerOf 11 = .ok (.ireturn, 1) := by decide +kernel
theorem zd_W_change_0 : decode zb_W_change 0 = .ok (.aload_n 0, 1) := by decide +kernel
theorem zd_W_change_1 : decode zb_W_change 1 = .ok (.getfield 12, 3) := by decide +kernel
theorem zd_W_change_4 : decode zb_W_change 4 = .ok (.iload_n 1, 1) := by decide +kernel
theorem zd_W_change_5 : decode zb_W_change 5 = .ok (.invokevirtual 44, 3) := by decide +kernel
theorem zd_W_change_8 : decode zb_W_change 8 = .ok (.ifCond .eq 14, 3) := by decide +kernel
theorem zd_W_change_11 : decode zb_W_change 11 = .ok (.aload_n 0, 1) := by decide +kernel
theorem zd_W_change_12 : decode zb_W_change 12 = .ok (.getfield 12, 3) := by decide +kernel
theorem zd_W_change_15 : decode zb_W_change 15 = .ok (.iload_n 1, 1) := by decide +kernel
theorem zd_W_change_16 : decode zb_W_change 16 = .ok (.invokevirtual 55, 3) := by decide +kernel
theorem zd_W_change_19 : decode zb_W_change 19 = .ok (.ifCond .eq 5, 3) := by decide +kernel
theorem zd_W_change_22 : decode zb_W_change 22 = .ok (.iconst 0, 1) := by decide +kernel
theorem zd_W_change_23 : decode zb_W_change 23 = .ok (.ireturn, 1) := by decide +kernel
theorem zd_W_change_24 : decode zb_W_change 24 = .ok (.aload_n 0, 1) := by decide +kernel
theorem zd_W_change_25 : decode zb_W_change 25 = .ok (.getfield 12, 3) := by decide +kernel
theorem zd_W_change_28 : decode zb_W_change 28 = .ok (.iload_n 1, 1) := by decide +kernel
theorem zd_W_change_29 : decode zb_W_change 29 = .ok (.lload_n 2, 1) := by decide +kernel
theorem zd_W_change_30 : decode zb_W_change 30 = .ok (.iload 4, 2) := by decide +kernel
theorem zd_W_change_32 : decode zb_W_change 32 = .ok (.sipush 255, 3) := by decide +kernel
theorem zd_W_change_35 : decode zb_W_change 35 = .ok (.iand, 1) := by decide +kernel
theorem zd_W_change_36 : decode zb_W_change 36 = .ok (.invokevirtual 66, 3) := by decide +kernel
theorem zd_W_change_39 : decode zb_W_change 39 = .ok (.ifCond .eq 8, 3) := by decide +kernel
theorem zd_W_change_42 : decode zb_W_change 42 = .ok (.aload_n 0, 1) := by decide +kernel
theorem zd_W_change_43 : decode zb_W_change 43 = .ok (.iload_n 1, 1) := by decide +kernel
theorem zd_W_change_44 : decode zb_W_change 44 = .ok (.invokevirtual 62, 3) := by decide +kernel
theorem zd_W_change_47 : decode zb_W_change 47 = .ok (.iconst 1, 1) := by decide +kernel
theorem zd_W_change_48 : decode zb_W_change 48 = .ok (.ireturn, 1) := by decide +kernel
theorem zd_T_assign_0 : decode zb_T_assign 0 = .ok (.aload_n 0, 1) := by decide +kernel
theorem zd_T_assign_1 : decode zb_T_assign 1 = .ok (.getfield 9, 3) := by decide +kernel
theorem zd_T_assign_4 : decode zb_T_assign 4 = .ok (.iload_n 1, 1) := by decide +kernel
theorem zd_T_assign_5 : decode zb_T_assign 5 = .ok (.laload, 1) := by decide +kernel
theorem zd_T_assign_6 : decode zb_T_assign 6 = .ok (.lload_n 2, 1) := by decide +kernel
theorem zd_T_assign_7 : decode zb_T_assign 7 = .ok (.lcmp, 1) := by decide +kernel
theorem zd_T_assign_8 : decode zb_T_assign 8 = .ok (.ifCond .ne 14, 3) := by decide +kernel
theorem zd_T_assign_11 : decode zb_T_assign 11 = .ok (.aload_n 0, 1) := by decide +kernel
theorem zd_T_assign_12 : decode zb_T_assign 12 = .ok (.getfield 15, 3) := by decide +kernel
theorem zd_T_assign_15 : decode zb_T_assign 15 = .ok (.iload_n 1, 1) := by decide +kernel
theorem zd_T_assign_16 : decode zb_T_assign 16 = .ok (.iaload, 1) := by decide +kernel
theorem zd_T_assign_17 : decode zb_T_assign 17 = .ok (.iload 4, 2) := by decide +kernel
theorem zd_T_assign_19 : decode zb_T_assign 19 = .ok (.if_icmp .eq 7, 3) := by decide +kernel
theorem zd_T_assign_22 : decode zb_T_assign 22 = .ok (.iconst 1, 1) := by decide +kernel
theorem zd_T_assign_23 : decode zb_T_assign 23 = .ok (.goto 4, 3) := by decide +kernel
theorem zd_T_assign_26 : decode zb_T_assign 26 = .ok (.iconst 0, 1) := by decide +kernel
theorem zd_T_assign_27 : decode zb_T_assign 27 = .ok (.istore 5, 2) := by decide +kernel
theorem zd_T_assign_29 : decode zb_T_assign 29 = .ok (.aload_n 0, 1) := by decide +kernel
theorem zd_T_assign_30 : decode zb_T_assign 30 = .ok (.getfield 9, 3) := by decide +kernel
theorem zd_T_assign_33 : decode zb_T_assign 33 = .ok (.iload_n 1, 1) := by decide +kernel
theorem zd_T_assign_34 : decode zb_T_assign 34 = .ok (.lload_n 2, 1) := by decide +kernel
theorem zd_T_assign_35 : decode zb_T_assign 35 = .ok (.lastore, 1) := by decide +kernel
theorem zd_T_assign_36 : decode zb_T_assign 36 = .ok (.aload_n 0, 1) := by decide +kernel
theorem zd_T_assign_37 : decode zb_T_assign 37 = .ok (.getfield 15, 3) := by decide +kernel
theorem zd_T_assign_40 : decode zb_T_assign 40 = .ok (.iload_n 1, 1) := by decide +kernel
theorem zd_T_assign_41 : decode zb_T_assign 41 = .ok (.iload 4, 2) := by decide +kernel
theorem zd_T_assign_43 : decode zb_T_assign 43 = .ok (.iastore, 1) := by decide +kernel
theorem zd_T_assign_44 : decode zb_T_assign 44 = .ok (.iload 5, 2) := by decide +kernel
theorem zd_T_assign_46 : decode zb_T_assign 46 = .ok (.ireturn, 1) := by decide +kernel
theorem zd_W_aspect_0 : decode zb_W_aspect 0 = .ok (.iload_n 1, 1) := by decide +kernel
theorem zd_W_aspect_1 : decode zb_W_aspect 1 = .ok (.ifCond .lt 21, 3) := by decide +kernel
theorem zd_W_aspect_4 : decode zb_W_aspect 4 = .ok (.iload_n 1, 1) := by decide +kernel
theorem zd_W_aspect_5 : decode zb_W_aspect 5 = .ok (.iconst 4, 1) := by decide +kernel
theorem zd_W_aspect_6 : decode zb_W_aspect 6 = .ok (.if_icmp .ge 16, 3) := by decide +kernel
theorem zd_W_aspect_9 : decode zb_W_aspect 9 = .ok (.iload 5, 2) := by decide +kernel
theorem zd_W_aspect_11 : decode zb_W_aspect 11 = .ok (.iconst (-1), 1) := by decide +kernel
theorem zd_W_aspect_12 : decode zb_W_aspect 12 = .ok (.if_icmp .lt 10, 3) := by decide +kernel
theorem zd_W_aspect_15 : decode zb_W_aspect 15 = .ok (.iload 5, 2) := by decide +kernel
theorem zd_W_aspect_17 : decode zb_W_aspect 17 = .ok (.bipush 10, 2) := by decide +kernel
theorem zd_W_aspect_19 : decode zb_W_aspect 19 = .ok (.if_icmp .lt 5, 3) := by decide +kernel
theorem zd_W_aspect_22 : decode zb_W_aspect 22 = .ok (.iconst (-1), 1) := by decide +kernel
theorem zd_W_aspect_23 : decode zb_W_aspect 23 = .ok (.ireturn, 1) := by decide +kernel
theorem zd_W_aspect_24 : decode zb_W_aspect 24 = .ok (.aload_n 0, 1) := by decide +kernel
theorem zd_W_aspect_25 : decode zb_W_aspect 25 = .ok (.getfield 19, 3) := by decide +kernel
theorem zd_W_aspect_28 : decode zb_W_aspect 28 = .ok (.iload_n 1, 1) := by decide +kernel
theorem zd_W_aspect_29 : decode zb_W_aspect 29 = .ok (.iload_n 2, 1) := by decide +kernel
theorem zd_W_aspect_30 : decode zb_W_aspect 30 = .ok (.bipush 7, 2) := by decide +kernel
theorem zd_W_aspect_32 : decode zb_W_aspect 32 = .ok (.iand, 1) := by decide +kernel
theorem zd_W_aspect_33 : decode zb_W_aspect 33 = .ok (.iload_n 3, 1) := by decide +kernel
theorem zd_W_aspect_34 : decode zb_W_aspect 34 = .ok (.sipush 255, 3) := by decide +kernel
theorem zd_W_aspect_37 : decode zb_W_aspect 37 = .ok (.iand, 1) := by decide +kernel
theorem zd_W_aspect_38 : decode zb_W_aspect 38 = .ok (.iload 4, 2) := by decide +kernel
theorem zd_W_aspect_40 : decode zb_W_aspect 40 = .ok (.sipush 255, 3) := by decide +kernel
theorem zd_W_aspect_43 : decode zb_W_aspect 43 = .ok (.iand, 1) := by decide +kernel
theorem zd_W_aspect_44 : decode zb_W_aspect 44 = .ok (.iload 5, 2) := by decide +kernel
theorem zd_W_aspect_46 : decode zb_W_aspect 46 = .ok (.invokevirtual 70, 3) := by decide +kernel
theorem zd_W_aspect_49 : decode zb_W_aspect 49 = .ok (.ireturn, 1) := by decide +kernel
theorem zd_A_open_0 : decode zb_A_open 0 = .ok (.aload_n 0, 1) := by decide +kernel
theorem zd_A_open_1 : decode zb_A_open 1 = .ok (.getfield 36, 3) := by decide +kernel
