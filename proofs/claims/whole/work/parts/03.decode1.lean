theorem zd_A_open_4 : decode zb_A_open 4 = .ok (.bipush 8, 2) := by decide +kernel
theorem zd_A_open_6 : decode zb_A_open 6 = .ok (.if_icmp .lt 5, 3) := by decide +kernel
theorem zd_A_open_9 : decode zb_A_open 9 = .ok (.iconst (-1), 1) := by decide +kernel
theorem zd_A_open_10 : decode zb_A_open 10 = .ok (.ireturn, 1) := by decide +kernel
theorem zd_A_open_11 : decode zb_A_open 11 = .ok (.aload_n 0, 1) := by decide +kernel
theorem zd_A_open_12 : decode zb_A_open 12 = .ok (.getfield 36, 3) := by decide +kernel
theorem zd_A_open_15 : decode zb_A_open 15 = .ok (.istore 6, 2) := by decide +kernel
theorem zd_A_open_17 : decode zb_A_open 17 = .ok (.aload_n 0, 1) := by decide +kernel
theorem zd_A_open_18 : decode zb_A_open 18 = .ok (.getfield 9, 3) := by decide +kernel
theorem zd_A_open_21 : decode zb_A_open 21 = .ok (.iload 6, 2) := by decide +kernel
theorem zd_A_open_23 : decode zb_A_open 23 = .ok (.iload_n 1, 1) := by decide +kernel
theorem zd_A_open_24 : decode zb_A_open 24 = .ok (.iastore, 1) := by decide +kernel
theorem zd_A_open_25 : decode zb_A_open 25 = .ok (.aload_n 0, 1) := by decide +kernel
theorem zd_A_open_26 : decode zb_A_open 26 = .ok (.getfield 15, 3) := by decide +kernel
theorem zd_A_open_29 : decode zb_A_open 29 = .ok (.iload 6, 2) := by decide +kernel
theorem zd_A_open_31 : decode zb_A_open 31 = .ok (.iload_n 2, 1) := by decide +kernel
theorem zd_A_open_32 : decode zb_A_open 32 = .ok (.iastore, 1) := by decide +kernel
theorem zd_A_open_33 : decode zb_A_open 33 = .ok (.aload_n 0, 1) := by decide +kernel
theorem zd_A_open_34 : decode zb_A_open 34 = .ok (.getfield 18, 3) := by decide +kernel
theorem zd_A_open_37 : decode zb_A_open 37 = .ok (.iload 6, 2) := by decide +kernel
theorem zd_A_open_39 : decode zb_A_open 39 = .ok (.iload_n 3, 1) := by decide +kernel
theorem zd_A_open_40 : decode zb_A_open 40 = .ok (.iastore, 1) := by decide +kernel
theorem zd_A_open_41 : decode zb_A_open 41 = .ok (.aload_n 0, 1) := by decide +kernel
theorem zd_A_open_42 : decode zb_A_open 42 = .ok (.getfield 21, 3) := by decide +kernel
theorem zd_A_open_45 : decode zb_A_open 45 = .ok (.iload 6, 2) := by decide +kernel
theorem zd_A_open_47 : decode zb_A_open 47 = .ok (.iload 4, 2) := by decide +kernel
theorem zd_A_open_49 : decode zb_A_open 49 = .ok (.iastore, 1) := by decide +kernel
theorem zd_A_open_50 : decode zb_A_open 50 = .ok (.aload_n 0, 1) := by decide +kernel
theorem zd_A_open_51 : decode zb_A_open 51 = .ok (.getfield 24, 3) := by decide +kernel
theorem zd_A_open_54 : decode zb_A_open 54 = .ok (.iload 6, 2) := by decide +kernel
theorem zd_A_open_56 : decode zb_A_open 56 = .ok (.iload 5, 2) := by decide +kernel
theorem zd_A_open_58 : decode zb_A_open 58 = .ok (.iastore, 1) := by decide +kernel
theorem zd_A_open_59 : decode zb_A_open 59 = .ok (.aload_n 0, 1) := by decide +kernel
theorem zd_A_open_60 : decode zb_A_open 60 = .ok (.getfield 33, 3) := by decide +kernel
theorem zd_A_open_63 : decode zb_A_open 63 = .ok (.iload 6, 2) := by decide +kernel
theorem zd_A_open_65 : decode zb_A_open 65 = .ok (.iconst 1, 1) := by decide +kernel
theorem zd_A_open_66 : decode zb_A_open 66 = .ok (.iload 6, 2) := by decide +kernel
theorem zd_A_open_68 : decode zb_A_open 68 = .ok (.ishl, 1) := by decide +kernel
theorem zd_A_open_69 : decode zb_A_open 69 = .ok (.iastore, 1) := by decide +kernel
theorem zd_A_open_70 : decode zb_A_open 70 = .ok (.aload_n 0, 1) := by decide +kernel
theorem zd_A_open_71 : decode zb_A_open 71 = .ok (.dup, 1) := by decide +kernel
theorem zd_A_open_72 : decode zb_A_open 72 = .ok (.getfield 36, 3) := by decide +kernel
theorem zd_A_open_75 : decode zb_A_open 75 = .ok (.iconst 1, 1) := by decide +kernel
theorem zd_A_open_76 : decode zb_A_open 76 = .ok (.iadd, 1) := by decide +kernel
theorem zd_A_open_77 : decode zb_A_open 77 = .ok (.putfield 36, 3) := by decide +kernel
theorem zd_A_open_80 : decode zb_A_open 80 = .ok (.iload 6, 2) := by decide +kernel
theorem zd_A_open_82 : decode zb_A_open 82 = .ok (.ireturn, 1) := by decide +kernel
theorem zd_W_need_0 : decode zb_W_need 0 = .ok (.aload_n 0, 1) := by decide +kernel
theorem zd_W_need_1 : decode zb_W_need 1 = .ok (.getfield 19, 3) := by decide +kernel
theorem zd_W_need_4 : decode zb_W_need 4 = .ok (.iload_n 1, 1) := by decide +kernel
theorem zd_W_need_5 : decode zb_W_need 5 = .ok (.invokevirtual 73, 3) := by decide +kernel
theorem zd_W_need_8 : decode zb_W_need 8 = .ok (.ifCond .eq 14, 3) := by decide +kernel
theorem zd_W_need_11 : decode zb_W_need 11 = .ok (.aload_n 0, 1) := by decide +kernel
theorem zd_W_need_12 : decode zb_W_need 12 = .ok (.getfield 19, 3) := by decide +kernel
theorem zd_W_need_15 : decode zb_W_need 15 = .ok (.iload_n 2, 1) := by decide +kernel
theorem zd_W_need_16 : decode zb_W_need 16 = .ok (.invokevirtual 73, 3) := by decide +kernel
theorem zd_W_need_19 : decode zb_W_need 19 = .ok (.ifCond .ne 5, 3) := by decide +kernel
theorem zd_W_need_22 : decode zb_W_need 22 = .ok (.iconst (-1), 1) := by decide +kernel
theorem zd_W_need_23 : decode zb_W_need 23 = .ok (.ireturn, 1) := by decide +kernel
theorem zd_W_need_24 : decode zb_W_need 24 = .ok (.aload_n 0, 1) := by decide +kernel
theorem zd_W_need_25 : decode zb_W_need 25 = .ok (.getfield 19, 3) := by decide +kernel
theorem zd_W_need_28 : decode zb_W_need 28 = .ok (.iload_n 1, 1) := by decide +kernel
theorem zd_W_need_29 : decode zb_W_need 29 = .ok (.iload_n 2, 1) := by decide +kernel
theorem zd_W_need_30 : decode zb_W_need 30 = .ok (.invokevirtual 74, 3) := by decide +kernel
theorem zd_W_need_33 : decode zb_W_need 33 = .ok (.ifCond .ne 15, 3) := by decide +kernel
theorem zd_W_need_36 : decode zb_W_need 36 = .ok (.aload_n 0, 1) := by decide +kernel
theorem zd_W_need_37 : decode zb_W_need 37 = .ok (.getfield 19, 3) := by decide +kernel
theorem zd_W_need_40 : decode zb_W_need 40 = .ok (.iload_n 1, 1) := by decide +kernel
theorem zd_W_need_41 : decode zb_W_need 41 = .ok (.invokevirtual 78, 3) := by decide +kernel
theorem zd_W_need_44 : decode zb_W_need 44 = .ok (.iconst 3, 1) := by decide +kernel
theorem zd_W_need_45 : decode zb_W_need 45 = .ok (.if_icmp .lt 5, 3) := by decide +kernel
theorem zd_W_need_48 : decode zb_W_need 48 = .ok (.iconst (-1), 1) := by decide +kernel
theorem zd_W_need_49 : decode zb_W_need 49 = .ok (.ireturn, 1) := by decide +kernel
theorem zd_W_need_50 : decode zb_W_need 50 = .ok (.aload_n 0, 1) := by decide +kernel
theorem zd_W_need_51 : decode zb_W_need 51 = .ok (.getfield 19, 3) := by decide +kernel
theorem zd_W_need_54 : decode zb_W_need 54 = .ok (.iload_n 2, 1) := by decide +kernel
theorem zd_W_need_55 : decode zb_W_need 55 = .ok (.iload_n 1, 1) := by decide +kernel
theorem zd_W_need_56 : decode zb_W_need 56 = .ok (.invokevirtual 81, 3) := by decide +kernel
theorem zd_W_need_59 : decode zb_W_need 59 = .ok (.ifCond .eq 6, 3) := by decide +kernel
theorem zd_W_need_62 : decode zb_W_need 62 = .ok (.bipush (-2), 2) := by decide +kernel
theorem zd_W_need_64 : decode zb_W_need 64 = .ok (.ireturn, 1) := by decide +kernel
theorem zd_W_need_65 : decode zb_W_need 65 = .ok (.aload_n 0, 1) := by decide +kernel
theorem zd_W_need_66 : decode zb_W_need 66 = .ok (.getfield 19, 3) := by decide +kernel
theorem zd_W_need_69 : decode zb_W_need 69 = .ok (.iload_n 1, 1) := by decide +kernel
theorem zd_W_need_70 : decode zb_W_need 70 = .ok (.iload_n 2, 1) := by decide +kernel
theorem zd_W_need_71 : decode zb_W_need 71 = .ok (.invokevirtual 84, 3) := by decide +kernel
theorem zd_W_need_74 : decode zb_W_need 74 = .ok (.aload_n 0, 1) := by decide +kernel
theorem zd_W_need_75 : decode zb_W_need 75 = .ok (.iload_n 1, 1) := by decide +kernel
theorem zd_W_need_76 : decode zb_W_need 76 = .ok (.invokevirtual 88, 3) := by decide +kernel
theorem zd_W_need_79 : decode zb_W_need 79 = .ok (.iconst 1, 1) := by decide +kernel
theorem zd_W_need_80 : decode zb_W_need 80 = .ok (.ireturn, 1) := by decide +kernel
theorem zd_A_has_0 : decode zb_A_has 0 = .ok (.iload_n 1, 1) := by decide +kernel
theorem zd_A_has_1 : decode zb_A_has 1 = .ok (.ifCond .lt 15, 3) := by decide +kernel
theorem zd_A_has_4 : decode zb_A_has 4 = .ok (.iload_n 1, 1) := by decide +kernel
theorem zd_A_has_5 : decode zb_A_has 5 = .ok (.aload_n 0, 1) := by decide +kernel
theorem zd_A_has_6 : decode zb_A_has 6 = .ok (.getfield 36, 3) := by decide +kernel
theorem zd_A_has_9 : decode zb_A_has 9 = .ok (.if_icmp .ge 7, 3) := by decide +kernel
theorem zd_A_has_12 : decode zb_A_has 12 = .ok (.iconst 1, 1) := by decide +kernel
theorem zd_A_has_13 : decode zb_A_has 13 = .ok (.goto 4, 3) := by decide +kernel
theorem zd_A_has_16 : decode zb_A_has 16 = .ok (.iconst 0, 1) := by decide +kernel
theorem zd_A_has_17 : decode zb_A_has 17 = .ok (.ireturn, 1) := by decide +kernel
theorem zd_A_needsDirectly_0 : decode zb_A_needsDirectly 0 = .ok (.iconst 0, 1) := by decide +kernel
theorem zd_A_needsDirectly_1 : decode zb_A_needsDirectly 1 = .ok (.istore_n 3, 1) := by decide +kernel
theorem zd_A_needsDirectly_2 : decode zb_A_needsDirectly 2 = .ok (.iload_n 3, 1) := by decide +kernel
theorem zd_A_needsDirectly_3 : decode zb_A_needsDirectly 3 = .ok (.aload_n 0, 1) := by decide +kernel
theorem zd_A_needsDirectly_4 : decode zb_A_needsDirectly 4 = .ok (.getfield 30, 3) := by decide +kernel
theorem zd_A_needsDirectly_7 : decode zb_A_needsDirectly 7 = .ok (.iload_n 1, 1) := by decide +kernel
theorem zd_A_needsDirectly_8 : decode zb_A_needsDirectly 8 = .ok (.iaload, 1) := by decide +kernel
theorem zd_A_needsDirectly_9 : decode zb_A_needsDirectly 9 = .ok (.if_icmp .ge 21, 3) := by decide +kernel
theorem zd_A_needsDirectly_12 : decode zb_A_needsDirectly 12 = .ok (.aload_n 0, 1) := by decide +kernel
theorem zd_A_needsDirectly_13 : decode zb_A_needsDirectly 13 = .ok (.iload_n 1, 1) := by decide +kernel
theorem zd_A_needsDirectly_14 : decode zb_A_needsDirectly 14 = .ok (.iload_n 3, 1) := by decide +kernel
theorem zd_A_needsDirectly_15 : decode zb_A_needsDirectly 15 = .ok (.invokevirtual 40, 3) := by decide +kernel
theorem zd_A_needsDirectly_18 : decode zb_A_needsDirectly 18 = .ok (.iload_n 2, 1) := by decide +kernel
theorem zd_A_needsDirectly_19 : decode zb_A_needsDirectly 19 = .ok (.if_icmp .ne 5, 3) := by decide +kernel
theorem zd_A_needsDirectly_22 : decode zb_A_needsDirectly 22 = .ok (.iconst 1, 1) := by decide +kernel
theorem zd_A_needsDirectly_23 : decode zb_A_needsDirectly 23 = .ok (.ireturn, 1) := by decide +kernel
theorem zd_A_needsDirectly_24 : decode zb_A_needsDirectly 24 = .ok (.iinc 3 1, 3) := by decide +kernel
theorem zd_A_needsDirectly_27 : decode zb_A_needsDirectly 27 = .ok (.goto (-25), 3) := by decide +kernel
theorem zd_A_needsDirectly_30 : decode zb_A_needsDirectly 30 = .ok (.iconst 0, 1) := by decide +kernel
theorem zd_A_needsDirectly_31 : decode zb_A_needsDirectly 31 = .ok (.ireturn, 1) := by decide +kernel
theorem zd_A_needAt_0 : decode zb_A_needAt 0 = .ok (.aload_n 0, 1) := by decide +kernel
theorem zd_A_needAt_1 : decode zb_A_needAt 1 = .ok (.getfield 27, 3) := by decide +kernel
theorem zd_A_needAt_4 : decode zb_A_needAt 4 = .ok (.iload_n 1, 1) := by decide +kernel
theorem zd_A_needAt_5 : decode zb_A_needAt 5 = .ok (.iconst 3, 1) := by decide +kernel
theorem zd_A_needAt_6 : decode zb_A_needAt 6 = .ok (.imul, 1) := by decide +kernel
theorem zd_A_needAt_7 : decode zb_A_needAt 7 = .ok (.iload_n 2, 1) := by decide +kernel
theorem zd_A_needAt_8 : decode zb_A_needAt 8 = .ok (.iadd, 1) := by decide +kernel
theorem zd_A_needAt_9 : decode zb_A_needAt 9 = .ok (.iaload, 1) := by decide +kernel
theorem zd_A_needAt_10 : decode zb_A_needAt 10 = .ok (.ireturn, 1) := by decide +kernel
theorem zd_A_needCount_0 : decode zb_A_needCount 0 = .ok (.aload_n 0, 1) := by decide +kernel
theorem zd_A_needCount_1 : decode zb_A_needCount 1 = .ok (.getfield 30, 3) := by decide +kernel
theorem zd_A_needCount_4 : decode zb_A_needCount 4 = .ok (.iload_n 1, 1) := by decide +kernel
theorem zd_A_needCount_5 : decode zb_A_needCount 5 = .ok (.iaload, 1) := by decide +kernel
theorem zd_A_needCount_6 : decode zb_A_needCount 6 = .ok (.ireturn, 1) := by decide +kernel
theorem zd_A_leadsTo_0 : decode zb_A_leadsTo 0 = .ok (.aload_n 0, 1) := by decide +kernel
theorem zd_A_leadsTo_1 : decode zb_A_leadsTo 1 = .ok (.getfield 33, 3) := by decide +kernel
theorem zd_A_leadsTo_4 : decode zb_A_leadsTo 4 = .ok (.iload_n 1, 1) := by decide +kernel
theorem zd_A_leadsTo_5 : decode zb_A_leadsTo 5 = .ok (.iaload, 1) := by decide +kernel
theorem zd_A_leadsTo_6 : decode zb_A_leadsTo 6 = .ok (.iload_n 2, 1) := by decide +kernel
theorem zd_A_leadsTo_7 : decode zb_A_leadsTo 7 = .ok (.ishr, 1) := by decide +kernel
theorem zd_A_leadsTo_8 : decode zb_A_leadsTo 8 = .ok (.iconst 1, 1) := by decide +kernel
theorem zd_A_leadsTo_9 : decode zb_A_leadsTo 9 = .ok (.iand, 1) := by decide +kernel
theorem zd_A_leadsTo_10 : decode zb_A_leadsTo 10 = .ok (.ifCond .eq 7, 3) := by decide +kernel
theorem zd_A_leadsTo_13 : decode zb_A_leadsTo 13 = .ok (.iconst 1, 1) := by decide +kernel
theorem zd_A_leadsTo_14 : decode zb_A_leadsTo 14 = .ok (.goto 4, 3) := by decide +kernel
theorem zd_A_leadsTo_17 : decode zb_A_leadsTo 17 = .ok (.iconst 0, 1) := by decide +kernel
theorem zd_A_leadsTo_18 : decode zb_A_leadsTo 18 = .ok (.ireturn, 1) := by decide +kernel
theorem zd_A_appendNeed_0 : decode zb_A_appendNeed 0 = .ok (.aload_n 0, 1) := by decide +kernel
theorem zd_A_appendNeed_1 : decode zb_A_appendNeed 1 = .ok (.getfield 27, 3) := by decide +kernel
theorem zd_A_appendNeed_4 : decode zb_A_appendNeed 4 = .ok (.iload_n 1, 1) := by decide +kernel
theorem zd_A_appendNeed_5 : decode zb_A_appendNeed 5 = .ok (.iconst 3, 1) := by decide +kernel
theorem zd_A_appendNeed_6 : decode zb_A_appendNeed 6 = .ok (.imul, 1) := by decide +kernel
theorem zd_A_appendNeed_7 : decode zb_A_appendNeed 7 = .ok (.aload_n 0, 1) := by decide +kernel
theorem zd_A_appendNeed_8 : decode zb_A_appendNeed 8 = .ok (.getfield 30, 3) := by decide +kernel
theorem zd_A_appendNeed_11 : decode zb_A_appendNeed 11 = .ok (.iload_n 1, 1) := by decide +kernel
theorem zd_A_appendNeed_12 : decode zb_A_appendNeed 12 = .ok (.iaload, 1) := by decide +kernel
theorem zd_A_appendNeed_13 : decode zb_A_appendNeed 13 = .ok (.iadd, 1) := by decide +kernel
theorem zd_A_appendNeed_14 : decode zb_A_appendNeed 14 = .ok (.iload_n 2, 1) := by decide +kernel
theorem zd_A_appendNeed_15 : decode zb_A_appendNeed 15 = .ok (.iastore, 1) := by decide +kernel
theorem zd_A_appendNeed_16 : decode zb_A_appendNeed 16 = .ok (.aload_n 0, 1) := by decide +kernel
theorem zd_A_appendNeed_17 : decode zb_A_appendNeed 17 = .ok (.getfield 30, 3) := by decide +kernel
theorem zd_A_appendNeed_20 : decode zb_A_appendNeed 20 = .ok (.iload_n 1, 1) := by decide +kernel
theorem zd_A_appendNeed_21 : decode zb_A_appendNeed 21 = .ok (.dup2, 1) := by decide +kernel
theorem zd_A_appendNeed_22 : decode zb_A_appendNeed 22 = .ok (.iaload, 1) := by decide +kernel
theorem zd_A_appendNeed_23 : decode zb_A_appendNeed 23 = .ok (.iconst 1, 1) := by decide +kernel
theorem zd_A_appendNeed_24 : decode zb_A_appendNeed 24 = .ok (.iadd, 1) := by decide +kernel
theorem zd_A_appendNeed_25 : decode zb_A_appendNeed 25 = .ok (.iastore, 1) := by decide +kernel
theorem zd_A_appendNeed_26 : decode zb_A_appendNeed 26 = .ok (.iconst 0, 1) := by decide +kernel
theorem zd_A_appendNeed_27 : decode zb_A_appendNeed 27 = .ok (.istore_n 3, 1) := by decide +kernel
theorem zd_A_appendNeed_28 : decode zb_A_appendNeed 28 = .ok (.iload_n 3, 1) := by decide +kernel
theorem zd_A_appendNeed_29 : decode zb_A_appendNeed 29 = .ok (.aload_n 0, 1) := by decide +kernel
theorem zd_A_appendNeed_30 : decode zb_A_appendNeed 30 = .ok (.getfield 36, 3) := by decide +kernel
theorem zd_A_appendNeed_33 : decode zb_A_appendNeed 33 = .ok (.if_icmp .ge 33, 3) := by decide +kernel
theorem zd_A_appendNeed_36 : decode zb_A_appendNeed 36 = .ok (.aload_n 0, 1) := by decide +kernel
theorem zd_A_appendNeed_37 : decode zb_A_appendNeed 37 = .ok (.iload_n 3, 1) := by decide +kernel
theorem zd_A_appendNeed_38 : decode zb_A_appendNeed 38 = .ok (.iload_n 1, 1) := by decide +kernel
theorem zd_A_appendNeed_39 : decode zb_A_appendNeed 39 = .ok (.invokevirtual 44, 3) := by decide +kernel
theorem zd_A_appendNeed_42 : decode zb_A_appendNeed 42 = .ok (.ifCond .eq 18, 3) := by decide +kernel
theorem zd_A_appendNeed_45 : decode zb_A_appendNeed 45 = .ok (.aload_n 0, 1) := by decide +kernel
theorem zd_A_appendNeed_46 : decode zb_A_appendNeed 46 = .ok (.getfield 33, 3) := by decide +kernel
theorem zd_A_appendNeed_49 : decode zb_A_appendNeed 49 = .ok (.iload_n 3, 1) := by decide +kernel
theorem zd_A_appendNeed_50 : decode zb_A_appendNeed 50 = .ok (.dup2, 1) := by decide +kernel
theorem zd_A_appendNeed_51 : decode zb_A_appendNeed 51 = .ok (.iaload, 1) := by decide +kernel
theorem zd_A_appendNeed_52 : decode zb_A_appendNeed 52 = .ok (.aload_n 0, 1) := by decide +kernel
theorem zd_A_appendNeed_53 : decode zb_A_appendNeed 53 = .ok (.getfield 33, 3) := by decide +kernel
theorem zd_A_appendNeed_56 : decode zb_A_appendNeed 56 = .ok (.iload_n 2, 1) := by decide +kernel
theorem zd_A_appendNeed_57 : decode zb_A_appendNeed 57 = .ok (.iaload, 1) := by decide +kernel
theorem zd_A_appendNeed_58 : decode zb_A_appendNeed 58 = .ok (.ior, 1) := by decide +kernel
theorem zd_A_appendNeed_59 : decode zb_A_appendNeed 59 = .ok (.iastore, 1) := by decide +kernel
theorem zd_A_appendNeed_60 : decode zb_A_appendNeed 60 = .ok (.iinc 3 1, 3) := by decide +kernel
theorem zd_A_appendNeed_63 : decode zb_A_appendNeed 63 = .ok (.goto (-35), 3) := by decide +kernel
theorem zd_A_appendNeed_66 : decode zb_A_appendNeed 66 = .ok (.return_, 1) := by decide +kernel
theorem zd_W_forgetAllOf_0 : decode zb_W_forgetAllOf 0 = .ok (.iconst 0, 1) := by decide +kernel
theorem zd_W_forgetAllOf_1 : decode zb_W_forgetAllOf 1 = .ok (.istore_n 2, 1) := by decide +kernel
theorem zd_W_forgetAllOf_2 : decode zb_W_forgetAllOf 2 = .ok (.iload_n 2, 1) := by decide +kernel
theorem zd_W_forgetAllOf_3 : decode zb_W_forgetAllOf 3 = .ok (.aload_n 0, 1) := by decide +kernel
theorem zd_W_forgetAllOf_4 : decode zb_W_forgetAllOf 4 = .ok (.getfield 19, 3) := by decide +kernel
theorem zd_W_forgetAllOf_7 : decode zb_W_forgetAllOf 7 = .ok (.invokevirtual 216, 3) := by decide +kernel
theorem zd_W_forgetAllOf_10 : decode zb_W_forgetAllOf 10 = .ok (.if_icmp .ge 57, 3) := by decide +kernel
theorem zd_W_forgetAllOf_13 : decode zb_W_forgetAllOf 13 = .ok (.aload_n 0, 1) := by decide +kernel
theorem zd_W_forgetAllOf_14 : decode zb_W_forgetAllOf 14 = .ok (.getfield 19, 3) := by decide +kernel
theorem zd_W_forgetAllOf_17 : decode zb_W_forgetAllOf 17 = .ok (.iload_n 2, 1) := by decide +kernel
theorem zd_W_forgetAllOf_18 : decode zb_W_forgetAllOf 18 = .ok (.iload_n 1, 1) := by decide +kernel
theorem zd_W_forgetAllOf_19 : decode zb_W_forgetAllOf 19 = .ok (.invokevirtual 81, 3) := by decide +kernel
theorem zd_W_forgetAllOf_22 : decode zb_W_forgetAllOf 22 = .ok (.ifCond .eq 39, 3) := by decide +kernel
theorem zd_W_forgetAllOf_25 : decode zb_W_forgetAllOf 25 = .ok (.iconst 0, 1) := by decide +kernel
theorem zd_W_forgetAllOf_26 : decode zb_W_forgetAllOf 26 = .ok (.istore_n 3, 1) := by decide +kernel
theorem zd_W_forgetAllOf_27 : decode zb_W_forgetAllOf 27 = .ok (.iload_n 3, 1) := by decide +kernel
theorem zd_W_forgetAllOf_28 : decode zb_W_forgetAllOf 28 = .ok (.aload_n 0, 1) := by decide +kernel
theorem zd_W_forgetAllOf_29 : decode zb_W_forgetAllOf 29 = .ok (.getfield 12, 3) := by decide +kernel
theorem zd_W_forgetAllOf_32 : decode zb_W_forgetAllOf 32 = .ok (.invokevirtual 212, 3) := by decide +kernel
theorem zd_W_forgetAllOf_35 : decode zb_W_forgetAllOf 35 = .ok (.if_icmp .ge 26, 3) := by decide +kernel
theorem zd_W_forgetAllOf_38 : decode zb_W_forgetAllOf 38 = .ok (.aload_n 0, 1) := by decide +kernel
theorem zd_W_forgetAllOf_39 : decode zb_W_forgetAllOf 39 = .ok (.getfield 26, 3) := by decide +kernel
theorem zd_W_forgetAllOf_42 : decode zb_W_forgetAllOf 42 = .ok (.iload_n 3, 1) := by decide +kernel
theorem zd_W_forgetAllOf_43 : decode zb_W_forgetAllOf 43 = .ok (.iload_n 2, 1) := by decide +kernel
theorem zd_W_forgetAllOf_44 : decode zb_W_forgetAllOf 44 = .ok (.aload_n 0, 1) := by decide +kernel
theorem zd_W_forgetAllOf_45 : decode zb_W_forgetAllOf 45 = .ok (.getfield 19, 3) := by decide +kernel
theorem zd_W_forgetAllOf_48 : decode zb_W_forgetAllOf 48 = .ok (.iload_n 2, 1) := by decide +kernel
theorem zd_W_forgetAllOf_49 : decode zb_W_forgetAllOf 49 = .ok (.invokevirtual 176, 3) := by decide +kernel
theorem zd_W_forgetAllOf_52 : decode zb_W_forgetAllOf 52 = .ok (.invokevirtual 217, 3) := by decide +kernel
theorem zd_W_forgetAllOf_55 : decode zb_W_forgetAllOf 55 = .ok (.iinc 3 1, 3) := by decide +kernel
theorem zd_W_forgetAllOf_58 : decode zb_W_forgetAllOf 58 = .ok (.goto (-31), 3) := by decide +kernel
theorem zd_W_forgetAllOf_61 : decode zb_W_forgetAllOf 61 = .ok (.iinc 2 1, 3) := by decide +kernel
theorem zd_W_forgetAllOf_64 : decode zb_W_forgetAllOf 64 = .ok (.goto (-62), 3) := by decide +kernel
theorem zd_W_forgetAllOf_67 : decode zb_W_forgetAllOf 67 = .ok (.return_, 1) := by decide +kernel
theorem zd_W_apply_0 : decode zb_W_apply 0 = .ok (.aload_n 0, 1) := by decide +kernel
theorem zd_W_apply_1 : decode zb_W_apply 1 = .ok (.iload_n 1, 1) := by decide +kernel
theorem zd_W_apply_2 : decode zb_W_apply 2 = .ok (.iload_n 2, 1) := by decide +kernel
theorem zd_W_apply_3 : decode zb_W_apply 3 = .ok (.iload_n 3, 1) := by decide +kernel
theorem zd_W_apply_4 : decode zb_W_apply 4 = .ok (.invokevirtual 91, 3) := by decide +kernel
theorem zd_W_apply_7 : decode zb_W_apply 7 = .ok (.ifCond .ne 5, 3) := by decide +kernel
theorem zd_W_apply_10 : decode zb_W_apply 10 = .ok (.iconst (-1), 1) := by decide +kernel
theorem zd_W_apply_11 : decode zb_W_apply 11 = .ok (.ireturn, 1) := by decide +kernel
theorem zd_W_apply_12 : decode zb_W_apply 12 = .ok (.aload_n 0, 1) := by decide +kernel
theorem zd_W_apply_13 : decode zb_W_apply 13 = .ok (.aload_n 0, 1) := by decide +kernel
theorem zd_W_apply_14 : decode zb_W_apply 14 = .ok (.getfield 12, 3) := by decide +kernel
theorem zd_W_apply_17 : decode zb_W_apply 17 = .ok (.iload_n 1, 1) := by decide +kernel
theorem zd_W_apply_18 : decode zb_W_apply 18 = .ok (.invokevirtual 52, 3) := by decide +kernel
theorem zd_W_apply_21 : decode zb_W_apply 21 = .ok (.iload_n 2, 1) := by decide +kernel
theorem zd_W_apply_22 : decode zb_W_apply 22 = .ok (.iload_n 3, 1) := by decide +kernel
theorem zd_W_apply_23 : decode zb_W_apply 23 = .ok (.iconst 0, 1) := by decide +kernel
theorem zd_W_apply_24 : decode zb_W_apply 24 = .ok (.invokevirtual 94, 3) := by decide +kernel
theorem zd_W_apply_27 : decode zb_W_apply 27 = .ok (.ireturn, 1) := by decide +kernel
theorem zd_W_isAsked_0 : decode zb_W_isAsked 0 = .ok (.aload_n 0, 1) := by decide +kernel
theorem zd_W_isAsked_1 : decode zb_W_isAsked 1 = .ok (.getfield 12, 3) := by decide +kernel
theorem zd_W_isAsked_4 : decode zb_W_isAsked 4 = .ok (.iload_n 1, 1) := by decide +kernel
theorem zd_W_isAsked_5 : decode zb_W_isAsked 5 = .ok (.invokevirtual 44, 3) := by decide +kernel
theorem zd_W_isAsked_8 : decode zb_W_isAsked 8 = .ok (.ifCond .eq 28, 3) := by decide +kernel
theorem zd_W_isAsked_11 : decode zb_W_isAsked 11 = .ok (.aload_n 0, 1) := by decide +kernel
theorem zd_W_isAsked_12 : decode zb_W_isAsked 12 = .ok (.getfield 19, 3) := by decide +kernel
theorem zd_W_isAsked_15 : decode zb_W_isAsked 15 = .ok (.iload_n 2, 1) := by decide +kernel
theorem zd_W_isAsked_16 : decode zb_W_isAsked 16 = .ok (.invokevirtual 73, 3) := by decide +kernel
theorem zd_W_isAsked_19 : decode zb_W_isAsked 19 = .ok (.ifCond .eq 17, 3) := by decide +kernel
theorem zd_W_isAsked_22 : decode zb_W_isAsked 22 = .ok (.iload_n 3, 1) := by decide +kernel
theorem zd_W_isAsked_23 : decode zb_W_isAsked 23 = .ok (.ifCond .lt 13, 3) := by decide +kernel
theorem zd_W_isAsked_26 : decode zb_W_isAsked 26 = .ok (.iload_n 3, 1) := by decide +kernel
theorem zd_W_isAsked_27 : decode zb_W_isAsked 27 = .ok (.bipush 16, 2) := by decide +kernel
theorem zd_W_isAsked_29 : decode zb_W_isAsked 29 = .ok (.if_icmp .ge 7, 3) := by decide +kernel
theorem zd_W_isAsked_32 : decode zb_W_isAsked 32 = .ok (.iconst 1, 1) := by decide +kernel
theorem zd_W_isAsked_33 : decode zb_W_isAsked 33 = .ok (.goto 4, 3) := by decide +kernel
theorem zd_W_isAsked_36 : decode zb_W_isAsked 36 = .ok (.iconst 0, 1) := by decide +kernel
theorem zd_W_isAsked_37 : decode zb_W_isAsked 37 = .ok (.ireturn, 1) := by decide +kernel
theorem zd_W_doing_0 : decode zb_W_doing 0 = .ok (.iload 4, 2) := by decide +kernel
theorem zd_W_doing_2 : decode zb_W_doing 2 = .ok (.bipush 28, 2) := by decide +kernel
theorem zd_W_doing_4 : decode zb_W_doing 4 = .ok (.if_icmp .le 5, 3) := by decide +kernel
theorem zd_W_doing_7 : decode zb_W_doing 7 = .ok (.iconst (-1), 1) := by decide +kernel
theorem zd_W_doing_8 : decode zb_W_doing 8 = .ok (.ireturn, 1) := by decide +kernel
theorem zd_W_doing_9 : decode zb_W_doing 9 = .ok (.aload_n 0, 1) := by decide +kernel
theorem zd_W_doing_10 : decode zb_W_doing 10 = .ok (.getfield 26, 3) := by decide +kernel
theorem zd_W_doing_13 : decode zb_W_doing 13 = .ok (.iload_n 1, 1) := by decide +kernel
theorem zd_W_doing_14 : decode zb_W_doing 14 = .ok (.iload_n 2, 1) := by decide +kernel
theorem zd_W_doing_15 : decode zb_W_doing 15 = .ok (.iload_n 3, 1) := by decide +kernel
theorem zd_W_doing_16 : decode zb_W_doing 16 = .ok (.invokevirtual 98, 3) := by decide +kernel
theorem zd_W_doing_19 : decode zb_W_doing 19 = .ok (.istore 5, 2) := by decide +kernel
theorem zd_W_doing_21 : decode zb_W_doing 21 = .ok (.iload 5, 2) := by decide +kernel
theorem zd_W_doing_23 : decode zb_W_doing 23 = .ok (.iconst (-1), 1) := by decide +kernel
theorem zd_W_doing_24 : decode zb_W_doing 24 = .ok (.if_icmp .eq 6, 3) := by decide +kernel
theorem zd_W_doing_27 : decode zb_W_doing 27 = .ok (.iload 5, 2) := by decide +kernel
theorem zd_W_doing_29 : decode zb_W_doing 29 = .ok (.ireturn, 1) := by decide +kernel
theorem zd_W_doing_30 : decode zb_W_doing 30 = .ok (.aload_n 0, 1) := by decide +kernel
theorem zd_W_doing_31 : decode zb_W_doing 31 = .ok (.iload_n 1, 1) := by decide +kernel
theorem zd_W_doing_32 : decode zb_W_doing 32 = .ok (.iload_n 2, 1) := by decide +kernel
theorem zd_W_doing_33 : decode zb_W_doing 33 = .ok (.iload_n 3, 1) := by decide +kernel
theorem zd_W_doing_34 : decode zb_W_doing 34 = .ok (.iload 4, 2) := by decide +kernel
theorem zd_W_doing_36 : decode zb_W_doing 36 = .ok (.invokevirtual 129, 3) := by decide +kernel
theorem zd_W_doing_39 : decode zb_W_doing 39 = .ok (.istore 6, 2) := by decide +kernel
theorem zd_W_doing_41 : decode zb_W_doing 41 = .ok (.iload 6, 2) := by decide +kernel
theorem zd_W_doing_43 : decode zb_W_doing 43 = .ok (.ifCond .ge 6, 3) := by decide +kernel
theorem zd_W_doing_46 : decode zb_W_doing 46 = .ok (.iload 6, 2) := by decide +kernel
theorem zd_W_doing_48 : decode zb_W_doing 48 = .ok (.ireturn, 1) := by decide +kernel
theorem zd_W_doing_49 : decode zb_W_doing 49 = .ok (.aload_n 0, 1) := by decide +kernel
theorem zd_W_doing_50 : decode zb_W_doing 50 = .ok (.iload_n 1, 1) := by decide +kernel
theorem zd_W_doing_51 : decode zb_W_doing 51 = .ok (.iload_n 2, 1) := by decide +kernel
theorem zd_W_doing_52 : decode zb_W_doing 52 = .ok (.iload_n 3, 1) := by decide +kernel
theorem zd_W_doing_53 : decode zb_W_doing 53 = .ok (.invokevirtual 132, 3) := by decide +kernel
theorem zd_W_doing_56 : decode zb_W_doing 56 = .ok (.ifCond .eq 15, 3) := by decide +kernel
theorem zd_W_doing_59 : decode zb_W_doing 59 = .ok (.aload_n 0, 1) := by decide +kernel
theorem zd_W_doing_60 : decode zb_W_doing 60 = .ok (.getfield 26, 3) := by decide +kernel
theorem zd_W_doing_63 : decode zb_W_doing 63 = .ok (.iload_n 1, 1) := by decide +kernel
theorem zd_W_doing_64 : decode zb_W_doing 64 = .ok (.iload_n 2, 1) := by decide +kernel
theorem zd_W_doing_65 : decode zb_W_doing 65 = .ok (.iload_n 3, 1) := by decide +kernel
theorem zd_W_doing_66 : decode zb_W_doing 66 = .ok (.invokevirtual 135, 3) := by decide +kernel
theorem zd_W_doing_69 : decode zb_W_doing 69 = .ok (.iconst 0, 1) := by decide +kernel
theorem zd_W_doing_70 : decode zb_W_doing 70 = .ok (.ireturn, 1) := by decide +kernel
theorem zd_W_doing_71 : decode zb_W_doing 71 = .ok (.aload_n 0, 1) := by decide +kernel
theorem zd_W_doing_72 : decode zb_W_doing 72 = .ok (.iload_n 1, 1) := by decide +kernel
theorem zd_W_doing_73 : decode zb_W_doing 73 = .ok (.iload_n 2, 1) := by decide +kernel
theorem zd_W_doing_74 : decode zb_W_doing 74 = .ok (.iload_n 3, 1) := by decide +kernel
theorem zd_W_doing_75 : decode zb_W_doing 75 = .ok (.iload 4, 2) := by decide +kernel
theorem zd_W_doing_77 : decode zb_W_doing 77 = .ok (.invokevirtual 139, 3) := by decide +kernel
theorem zd_W_doing_80 : decode zb_W_doing 80 = .ok (.istore 7, 2) := by decide +kernel
theorem zd_W_doing_82 : decode zb_W_doing 82 = .ok (.iload 7, 2) := by decide +kernel
theorem zd_W_doing_84 : decode zb_W_doing 84 = .ok (.ifCond .ge 6, 3) := by decide +kernel
theorem zd_W_doing_87 : decode zb_W_doing 87 = .ok (.iload 7, 2) := by decide +kernel
theorem zd_W_doing_89 : decode zb_W_doing 89 = .ok (.ireturn, 1) := by decide +kernel
theorem zd_W_doing_90 : decode zb_W_doing 90 = .ok (.aload_n 0, 1) := by decide +kernel
theorem zd_W_doing_91 : decode zb_W_doing 91 = .ok (.iload_n 1, 1) := by decide +kernel
theorem zd_W_doing_92 : decode zb_W_doing 92 = .ok (.iload_n 2, 1) := by decide +kernel
theorem zd_W_doing_93 : decode zb_W_doing 93 = .ok (.iload_n 3, 1) := by decide +kernel
theorem zd_W_doing_94 : decode zb_W_doing 94 = .ok (.invokevirtual 142, 3) := by decide +kernel
theorem zd_W_doing_97 : decode zb_W_doing 97 = .ok (.ifCond .ne 6, 3) := by decide +kernel
theorem zd_W_doing_100 : decode zb_W_doing 100 = .ok (.bipush (-2), 2) := by decide +kernel
theorem zd_W_doing_102 : decode zb_W_doing 102 = .ok (.ireturn, 1) := by decide +kernel
theorem zd_W_doing_103 : decode zb_W_doing 103 = .ok (.aload_n 0, 1) := by decide +kernel
theorem zd_W_doing_104 : decode zb_W_doing 104 = .ok (.getfield 26, 3) := by decide +kernel
theorem zd_W_doing_107 : decode zb_W_doing 107 = .ok (.iload_n 1, 1) := by decide +kernel
theorem zd_W_doing_108 : decode zb_W_doing 108 = .ok (.iload_n 2, 1) := by decide +kernel
theorem zd_W_doing_109 : decode zb_W_doing 109 = .ok (.iload_n 3, 1) := by decide +kernel
theorem zd_W_doing_110 : decode zb_W_doing 110 = .ok (.aload_n 0, 1) := by decide +kernel
theorem zd_W_doing_111 : decode zb_W_doing 111 = .ok (.iload_n 1, 1) := by decide +kernel
theorem zd_W_doing_112 : decode zb_W_doing 112 = .ok (.iload_n 2, 1) := by decide +kernel
theorem zd_W_doing_113 : decode zb_W_doing 113 = .ok (.iload_n 3, 1) := by decide +kernel
theorem zd_W_doing_114 : decode zb_W_doing 114 = .ok (.invokevirtual 145, 3) := by decide +kernel
theorem zd_W_doing_117 : decode zb_W_doing 117 = .ok (.invokevirtual 148, 3) := by decide +kernel
theorem zd_W_doing_120 : decode zb_W_doing 120 = .ok (.iconst 1, 1) := by decide +kernel
theorem zd_W_doing_121 : decode zb_W_doing 121 = .ok (.ireturn, 1) := by decide +kernel
theorem zd_M_known_0 : decode zb_M_known 0 = .ok (.iload_n 1, 1) := by decide +kernel
theorem zd_M_known_1 : decode zb_M_known 1 = .ok (.iload_n 2, 1) := by decide +kernel
theorem zd_M_known_2 : decode zb_M_known 2 = .ok (.invokestatic 37, 3) := by decide +kernel
theorem zd_M_known_5 : decode zb_M_known 5 = .ok (.istore 4, 2) := by decide +kernel
theorem zd_M_known_7 : decode zb_M_known 7 = .ok (.aload_n 0, 1) := by decide +kernel
theorem zd_M_known_8 : decode zb_M_known 8 = .ok (.getfield 11, 3) := by decide +kernel
theorem zd_M_known_11 : decode zb_M_known 11 = .ok (.iload 4, 2) := by decide +kernel
theorem zd_M_known_13 : decode zb_M_known 13 = .ok (.iaload, 1) := by decide +kernel
theorem zd_M_known_14 : decode zb_M_known 14 = .ok (.iload_n 3, 1) := by decide +kernel
theorem zd_M_known_15 : decode zb_M_known 15 = .ok (.ishr, 1) := by decide +kernel
theorem zd_M_known_16 : decode zb_M_known 16 = .ok (.iconst 1, 1) := by decide +kernel
theorem zd_M_known_17 : decode zb_M_known 17 = .ok (.iand, 1) := by decide +kernel
theorem zd_M_known_18 : decode zb_M_known 18 = .ok (.ifCond .eq 5, 3) := by decide +kernel
theorem zd_M_known_21 : decode zb_M_known 21 = .ok (.iconst 1, 1) := by decide +kernel
theorem zd_M_known_22 : decode zb_M_known 22 = .ok (.ireturn, 1) := by decide +kernel
theorem zd_M_known_23 : decode zb_M_known 23 = .ok (.aload_n 0, 1) := by decide +kernel
theorem zd_M_known_24 : decode zb_M_known 24 = .ok (.getfield 15, 3) := by decide +kernel
theorem zd_M_known_27 : decode zb_M_known 27 = .ok (.iload 4, 2) := by decide +kernel
theorem zd_M_known_29 : decode zb_M_known 29 = .ok (.iaload, 1) := by decide +kernel
theorem zd_M_known_30 : decode zb_M_known 30 = .ok (.iload_n 3, 1) := by decide +kernel
theorem zd_M_known_31 : decode zb_M_known 31 = .ok (.ishr, 1) := by decide +kernel
theorem zd_M_known_32 : decode zb_M_known 32 = .ok (.iconst 1, 1) := by decide +kernel
theorem zd_M_known_33 : decode zb_M_known 33 = .ok (.iand, 1) := by decide +kernel
theorem zd_M_known_34 : decode zb_M_known 34 = .ok (.ifCond .eq 7, 3) := by decide +kernel
theorem zd_M_known_37 : decode zb_M_known 37 = .ok (.iconst 0, 1) := by decide +kernel
theorem zd_M_known_38 : decode zb_M_known 38 = .ok (.goto 4, 3) := by decide +kernel
theorem zd_M_known_41 : decode zb_M_known 41 = .ok (.iconst (-1), 1) := by decide +kernel
theorem zd_M_known_42 : decode zb_M_known 42 = .ok (.ireturn, 1) := by decide +kernel
theorem zd_W_doNeeds_0 : decode zb_W_doNeeds 0 = .ok (.iconst 0, 1) := by decide +kernel
theorem zd_W_doNeeds_1 : decode zb_W_doNeeds 1 = .ok (.istore 5, 2) := by decide +kernel
theorem zd_W_doNeeds_3 : decode zb_W_doNeeds 3 = .ok (.iload 5, 2) := by decide +kernel
theorem zd_W_doNeeds_5 : decode zb_W_doNeeds 5 = .ok (.aload_n 0, 1) := by decide +kernel
theorem zd_W_doNeeds_6 : decode zb_W_doNeeds 6 = .ok (.getfield 19, 3) := by decide +kernel
theorem zd_W_doNeeds_9 : decode zb_W_doNeeds 9 = .ok (.iload_n 2, 1) := by decide +kernel
theorem zd_W_doNeeds_10 : decode zb_W_doNeeds 10 = .ok (.invokevirtual 78, 3) := by decide +kernel
theorem zd_W_doNeeds_13 : decode zb_W_doNeeds 13 = .ok (.if_icmp .ge 39, 3) := by decide +kernel
theorem zd_W_doNeeds_16 : decode zb_W_doNeeds 16 = .ok (.aload_n 0, 1) := by decide +kernel
theorem zd_W_doNeeds_17 : decode zb_W_doNeeds 17 = .ok (.iload_n 1, 1) := by decide +kernel
theorem zd_W_doNeeds_18 : decode zb_W_doNeeds 18 = .ok (.aload_n 0, 1) := by decide +kernel
theorem zd_W_doNeeds_19 : decode zb_W_doNeeds 19 = .ok (.getfield 19, 3) := by decide +kernel
theorem zd_W_doNeeds_22 : decode zb_W_doNeeds 22 = .ok (.iload_n 2, 1) := by decide +kernel
theorem zd_W_doNeeds_23 : decode zb_W_doNeeds 23 = .ok (.iload 5, 2) := by decide +kernel
theorem zd_W_doNeeds_25 : decode zb_W_doNeeds 25 = .ok (.invokevirtual 152, 3) := by decide +kernel
theorem zd_W_doNeeds_28 : decode zb_W_doNeeds 28 = .ok (.iload_n 3, 1) := by decide +kernel
theorem zd_W_doNeeds_29 : decode zb_W_doNeeds 29 = .ok (.iload 4, 2) := by decide +kernel
theorem zd_W_doNeeds_31 : decode zb_W_doNeeds 31 = .ok (.iconst 1, 1) := by decide +kernel
theorem zd_W_doNeeds_32 : decode zb_W_doNeeds 32 = .ok (.iadd, 1) := by decide +kernel
theorem zd_W_doNeeds_33 : decode zb_W_doNeeds 33 = .ok (.invokevirtual 94, 3) := by decide +kernel
theorem zd_W_doNeeds_36 : decode zb_W_doNeeds 36 = .ok (.istore 6, 2) := by decide +kernel
theorem zd_W_doNeeds_38 : decode zb_W_doNeeds 38 = .ok (.iload 6, 2) := by decide +kernel
theorem zd_W_doNeeds_40 : decode zb_W_doNeeds 40 = .ok (.ifCond .ge 6, 3) := by decide +kernel
theorem zd_W_doNeeds_43 : decode zb_W_doNeeds 43 = .ok (.iload 6, 2) := by decide +kernel
theorem zd_W_doNeeds_45 : decode zb_W_doNeeds 45 = .ok (.ireturn, 1) := by decide +kernel
theorem zd_W_doNeeds_46 : decode zb_W_doNeeds 46 = .ok (.iinc 5 1, 3) := by decide +kernel
theorem zd_W_doNeeds_49 : decode zb_W_doNeeds 49 = .ok (.goto (-46), 3) := by decide +kernel
theorem zd_W_doNeeds_52 : decode zb_W_doNeeds 52 = .ok (.iconst 1, 1) := by decide +kernel
theorem zd_W_doNeeds_53 : decode zb_W_doNeeds 53 = .ok (.ireturn, 1) := by decide +kernel
theorem zd_W_lacksProvider_0 : decode zb_W_lacksProvider 0 = .ok (.aload_n 0, 1) := by decide +kernel
theorem zd_W_lacksProvider_1 : decode zb_W_lacksProvider 1 = .ok (.getfield 12, 3) := by decide +kernel
theorem zd_W_lacksProvider_4 : decode zb_W_lacksProvider 4 = .ok (.iload_n 1, 1) := by decide +kernel
theorem zd_W_lacksProvider_5 : decode zb_W_lacksProvider 5 = .ok (.invokevirtual 167, 3) := by decide +kernel
theorem zd_W_lacksProvider_8 : decode zb_W_lacksProvider 8 = .ok (.istore 4, 2) := by decide +kernel
theorem zd_W_lacksProvider_10 : decode zb_W_lacksProvider 10 = .ok (.iconst 0, 1) := by decide +kernel
theorem zd_W_lacksProvider_11 : decode zb_W_lacksProvider 11 = .ok (.istore 5, 2) := by decide +kernel
theorem zd_W_lacksProvider_13 : decode zb_W_lacksProvider 13 = .ok (.iload 5, 2) := by decide +kernel
theorem zd_W_lacksProvider_15 : decode zb_W_lacksProvider 15 = .ok (.aload_n 0, 1) := by decide +kernel
theorem zd_W_lacksProvider_16 : decode zb_W_lacksProvider 16 = .ok (.getfield 19, 3) := by decide +kernel
theorem zd_W_lacksProvider_19 : decode zb_W_lacksProvider 19 = .ok (.iload_n 2, 1) := by decide +kernel
theorem zd_W_lacksProvider_20 : decode zb_W_lacksProvider 20 = .ok (.invokevirtual 78, 3) := by decide +kernel
theorem zd_W_lacksProvider_23 : decode zb_W_lacksProvider 23 = .ok (.if_icmp .ge 50, 3) := by decide +kernel
theorem zd_W_lacksProvider_26 : decode zb_W_lacksProvider 26 = .ok (.aload_n 0, 1) := by decide +kernel
theorem zd_W_lacksProvider_27 : decode zb_W_lacksProvider 27 = .ok (.getfield 19, 3) := by decide +kernel
theorem zd_W_lacksProvider_30 : decode zb_W_lacksProvider 30 = .ok (.iload_n 2, 1) := by decide +kernel
theorem zd_W_lacksProvider_31 : decode zb_W_lacksProvider 31 = .ok (.iload 5, 2) := by decide +kernel
theorem zd_W_lacksProvider_33 : decode zb_W_lacksProvider 33 = .ok (.invokevirtual 152, 3) := by decide +kernel
theorem zd_W_lacksProvider_36 : decode zb_W_lacksProvider 36 = .ok (.istore 6, 2) := by decide +kernel
theorem zd_W_lacksProvider_38 : decode zb_W_lacksProvider 38 = .ok (.aload_n 0, 1) := by decide +kernel
theorem zd_W_lacksProvider_39 : decode zb_W_lacksProvider 39 = .ok (.getfield 26, 3) := by decide +kernel
theorem zd_W_lacksProvider_42 : decode zb_W_lacksProvider 42 = .ok (.iload_n 1, 1) := by decide +kernel
theorem zd_W_lacksProvider_43 : decode zb_W_lacksProvider 43 = .ok (.iload 6, 2) := by decide +kernel
theorem zd_W_lacksProvider_45 : decode zb_W_lacksProvider 45 = .ok (.iload_n 3, 1) := by decide +kernel
theorem zd_W_lacksProvider_46 : decode zb_W_lacksProvider 46 = .ok (.invokevirtual 98, 3) := by decide +kernel
theorem zd_W_lacksProvider_49 : decode zb_W_lacksProvider 49 = .ok (.iconst 1, 1) := by decide +kernel
theorem zd_W_lacksProvider_50 : decode zb_W_lacksProvider 50 = .ok (.if_icmp .ne 17, 3) := by decide +kernel
theorem zd_W_lacksProvider_53 : decode zb_W_lacksProvider 53 = .ok (.iload 4, 2) := by decide +kernel
theorem zd_W_lacksProvider_55 : decode zb_W_lacksProvider 55 = .ok (.aload_n 0, 1) := by decide +kernel
theorem zd_W_lacksProvider_56 : decode zb_W_lacksProvider 56 = .ok (.getfield 19, 3) := by decide +kernel
theorem zd_W_lacksProvider_59 : decode zb_W_lacksProvider 59 = .ok (.iload 6, 2) := by decide +kernel
theorem zd_W_lacksProvider_61 : decode zb_W_lacksProvider 61 = .ok (.invokevirtual 170, 3) := by decide +kernel
theorem zd_W_lacksProvider_64 : decode zb_W_lacksProvider 64 = .ok (.ior, 1) := by decide +kernel
theorem zd_W_lacksProvider_65 : decode zb_W_lacksProvider 65 = .ok (.istore 4, 2) := by decide +kernel
theorem zd_W_lacksProvider_67 : decode zb_W_lacksProvider 67 = .ok (.iinc 5 1, 3) := by decide +kernel
theorem zd_W_lacksProvider_70 : decode zb_W_lacksProvider 70 = .ok (.goto (-57), 3) := by decide +kernel
theorem zd_W_lacksProvider_73 : decode zb_W_lacksProvider 73 = .ok (.aload_n 0, 1) := by decide +kernel
theorem zd_W_lacksProvider_74 : decode zb_W_lacksProvider 74 = .ok (.getfield 19, 3) := by decide +kernel
theorem zd_W_lacksProvider_77 : decode zb_W_lacksProvider 77 = .ok (.iload_n 2, 1) := by decide +kernel
theorem zd_W_lacksProvider_78 : decode zb_W_lacksProvider 78 = .ok (.invokevirtual 173, 3) := by decide +kernel
theorem zd_W_lacksProvider_81 : decode zb_W_lacksProvider 81 = .ok (.iload 4, 2) := by decide +kernel
theorem zd_W_lacksProvider_83 : decode zb_W_lacksProvider 83 = .ok (.iconst (-1), 1) := by decide +kernel
theorem zd_W_lacksProvider_84 : decode zb_W_lacksProvider 84 = .ok (.ixor, 1) := by decide +kernel
theorem zd_W_lacksProvider_85 : decode zb_W_lacksProvider 85 = .ok (.iand, 1) := by decide +kernel
theorem zd_W_lacksProvider_86 : decode zb_W_lacksProvider 86 = .ok (.ifCond .eq 7, 3) := by decide +kernel
theorem zd_W_lacksProvider_89 : decode zb_W_lacksProvider 89 = .ok (.iconst 1, 1) := by decide +kernel
theorem zd_W_lacksProvider_90 : decode zb_W_lacksProvider 90 = .ok (.goto 4, 3) := by decide +kernel
theorem zd_W_lacksProvider_93 : decode zb_W_lacksProvider 93 = .ok (.iconst 0, 1) := by decide +kernel
theorem zd_W_lacksProvider_94 : decode zb_W_lacksProvider 94 = .ok (.ireturn, 1) := by decide +kernel
theorem zd_T_providersOf_0 : decode zb_T_providersOf 0 = .ok (.aload_n 0, 1) := by decide +kernel
theorem zd_T_providersOf_1 : decode zb_T_providersOf 1 = .ok (.getfield 15, 3) := by decide +kernel
theorem zd_T_providersOf_4 : decode zb_T_providersOf 4 = .ok (.iload_n 1, 1) := by decide +kernel
theorem zd_T_providersOf_5 : decode zb_T_providersOf 5 = .ok (.iaload, 1) := by decide +kernel
theorem zd_T_providersOf_6 : decode zb_T_providersOf 6 = .ok (.ireturn, 1) := by decide +kernel
theorem zd_A_givesOf_0 : decode zb_A_givesOf 0 = .ok (.aload_n 0, 1) := by decide +kernel
theorem zd_A_givesOf_1 : decode zb_A_givesOf 1 = .ok (.getfield 21, 3) := by decide +kernel
theorem zd_A_givesOf_4 : decode zb_A_givesOf 4 = .ok (.iload_n 1, 1) := by decide +kernel
theorem zd_A_givesOf_5 : decode zb_A_givesOf 5 = .ok (.iaload, 1) := by decide +kernel
theorem zd_A_givesOf_6 : decode zb_A_givesOf 6 = .ok (.ireturn, 1) := by decide +kernel
theorem zd_A_wantsOf_0 : decode zb_A_wantsOf 0 = .ok (.aload_n 0, 1) := by decide +kernel
theorem zd_A_wantsOf_1 : decode zb_A_wantsOf 1 = .ok (.getfield 18, 3) := by decide +kernel
theorem zd_A_wantsOf_4 : decode zb_A_wantsOf 4 = .ok (.iload_n 1, 1) := by decide +kernel
theorem zd_A_wantsOf_5 : decode zb_A_wantsOf 5 = .ok (.iaload, 1) := by decide +kernel
theorem zd_A_wantsOf_6 : decode zb_A_wantsOf 6 = .ok (.ireturn, 1) := by decide +kernel
theorem zd_M_keepPassed_0 : decode zb_M_keepPassed 0 = .ok (.aload_n 0, 1) := by decide +kernel
theorem zd_M_keepPassed_1 : decode zb_M_keepPassed 1 = .ok (.getfield 15, 3) := by decide +kernel
theorem zd_M_keepPassed_4 : decode zb_M_keepPassed 4 = .ok (.iload_n 1, 1) := by decide +kernel
theorem zd_M_keepPassed_5 : decode zb_M_keepPassed 5 = .ok (.iload_n 2, 1) := by decide +kernel
theorem zd_M_keepPassed_6 : decode zb_M_keepPassed 6 = .ok (.invokestatic 37, 3) := by decide +kernel
theorem zd_M_keepPassed_9 : decode zb_M_keepPassed 9 = .ok (.dup2, 1) := by decide +kernel
theorem zd_M_keepPassed_10 : decode zb_M_keepPassed 10 = .ok (.iaload, 1) := by decide +kernel
theorem zd_M_keepPassed_11 : decode zb_M_keepPassed 11 = .ok (.iconst 1, 1) := by decide +kernel
theorem zd_M_keepPassed_12 : decode zb_M_keepPassed 12 = .ok (.iload_n 3, 1) := by decide +kernel
theorem zd_M_keepPassed_13 : decode zb_M_keepPassed 13 = .ok (.ishl, 1) := by decide +kernel
theorem zd_M_keepPassed_14 : decode zb_M_keepPassed 14 = .ok (.ior, 1) := by decide +kernel
theorem zd_M_keepPassed_15 : decode zb_M_keepPassed 15 = .ok (.iastore, 1) := by decide +kernel
theorem zd_M_keepPassed_16 : decode zb_M_keepPassed 16 = .ok (.return_, 1) := by decide +kernel
theorem zd_W_doBelow_0 : decode zb_W_doBelow 0 = .ok (.iconst 0, 1) := by decide +kernel
theorem zd_W_doBelow_1 : decode zb_W_doBelow 1 = .ok (.istore 5, 2) := by decide +kernel
theorem zd_W_doBelow_3 : decode zb_W_doBelow 3 = .ok (.iload 5, 2) := by decide +kernel
theorem zd_W_doBelow_5 : decode zb_W_doBelow 5 = .ok (.iconst 3, 1) := by decide +kernel
theorem zd_W_doBelow_6 : decode zb_W_doBelow 6 = .ok (.if_icmp .ge 67, 3) := by decide +kernel
theorem zd_W_doBelow_9 : decode zb_W_doBelow 9 = .ok (.aload_n 0, 1) := by decide +kernel
theorem zd_W_doBelow_10 : decode zb_W_doBelow 10 = .ok (.iload_n 1, 1) := by decide +kernel
theorem zd_W_doBelow_11 : decode zb_W_doBelow 11 = .ok (.iload_n 2, 1) := by decide +kernel
theorem zd_W_doBelow_12 : decode zb_W_doBelow 12 = .ok (.iload 5, 2) := by decide +kernel
theorem zd_W_doBelow_14 : decode zb_W_doBelow 14 = .ok (.invokevirtual 155, 3) := by decide +kernel
theorem zd_W_doBelow_17 : decode zb_W_doBelow 17 = .ok (.istore 6, 2) := by decide +kernel
theorem zd_W_doBelow_19 : decode zb_W_doBelow 19 = .ok (.iconst 0, 1) := by decide +kernel
theorem zd_W_doBelow_20 : decode zb_W_doBelow 20 = .ok (.istore 7, 2) := by decide +kernel
theorem zd_W_doBelow_22 : decode zb_W_doBelow 22 = .ok (.iload 7, 2) := by decide +kernel
theorem zd_W_doBelow_24 : decode zb_W_doBelow 24 = .ok (.iload 6, 2) := by decide +kernel
theorem zd_W_doBelow_26 : decode zb_W_doBelow 26 = .ok (.if_icmp .ge 41, 3) := by decide +kernel
theorem zd_W_doBelow_29 : decode zb_W_doBelow 29 = .ok (.aload_n 0, 1) := by decide +kernel
theorem zd_W_doBelow_30 : decode zb_W_doBelow 30 = .ok (.aload_n 0, 1) := by decide +kernel
theorem zd_W_doBelow_31 : decode zb_W_doBelow 31 = .ok (.getfield 12, 3) := by decide +kernel
theorem zd_W_doBelow_34 : decode zb_W_doBelow 34 = .ok (.iload_n 1, 1) := by decide +kernel
theorem zd_W_doBelow_35 : decode zb_W_doBelow 35 = .ok (.iload 5, 2) := by decide +kernel
theorem zd_W_doBelow_37 : decode zb_W_doBelow 37 = .ok (.iload 7, 2) := by decide +kernel
theorem zd_W_doBelow_39 : decode zb_W_doBelow 39 = .ok (.invokevirtual 158, 3) := by decide +kernel
theorem zd_W_doBelow_42 : decode zb_W_doBelow 42 = .ok (.iload_n 2, 1) := by decide +kernel
theorem zd_W_doBelow_43 : decode zb_W_doBelow 43 = .ok (.iload_n 3, 1) := by decide +kernel
theorem zd_W_doBelow_44 : decode zb_W_doBelow 44 = .ok (.iload 4, 2) := by decide +kernel
theorem zd_W_doBelow_46 : decode zb_W_doBelow 46 = .ok (.iconst 1, 1) := by decide +kernel
theorem zd_W_doBelow_47 : decode zb_W_doBelow 47 = .ok (.iadd, 1) := by decide +kernel
theorem zd_W_doBelow_48 : decode zb_W_doBelow 48 = .ok (.invokevirtual 94, 3) := by decide +kernel
theorem zd_W_doBelow_51 : decode zb_W_doBelow 51 = .ok (.istore 8, 2) := by decide +kernel
theorem zd_W_doBelow_53 : decode zb_W_doBelow 53 = .ok (.iload 8, 2) := by decide +kernel
theorem zd_W_doBelow_55 : decode zb_W_doBelow 55 = .ok (.ifCond .ge 6, 3) := by decide +kernel
theorem zd_W_doBelow_58 : decode zb_W_doBelow 58 = .ok (.iload 8, 2) := by decide +kernel
theorem zd_W_doBelow_60 : decode zb_W_doBelow 60 = .ok (.ireturn, 1) := by decide +kernel
theorem zd_W_doBelow_61 : decode zb_W_doBelow 61 = .ok (.iinc 7 1, 3) := by decide +kernel
theorem zd_W_doBelow_64 : decode zb_W_doBelow 64 = .ok (.goto (-42), 3) := by decide +kernel
theorem zd_W_doBelow_67 : decode zb_W_doBelow 67 = .ok (.iinc 5 1, 3) := by decide +kernel
theorem zd_W_doBelow_70 : decode zb_W_doBelow 70 = .ok (.goto (-67), 3) := by decide +kernel
theorem zd_W_doBelow_73 : decode zb_W_doBelow 73 = .ok (.iconst 1, 1) := by decide +kernel
theorem zd_W_doBelow_74 : decode zb_W_doBelow 74 = .ok (.ireturn, 1) := by decide +kernel
theorem zd_W_lengthAlong_0 : decode zb_W_lengthAlong 0 = .ok (.aload_n 0, 1) := by decide +kernel
theorem zd_W_lengthAlong_1 : decode zb_W_lengthAlong 1 = .ok (.getfield 19, 3) := by decide +kernel
theorem zd_W_lengthAlong_4 : decode zb_W_lengthAlong 4 = .ok (.iload_n 2, 1) := by decide +kernel
theorem zd_W_lengthAlong_5 : decode zb_W_lengthAlong 5 = .ok (.iload_n 3, 1) := by decide +kernel
theorem zd_W_lengthAlong_6 : decode zb_W_lengthAlong 6 = .ok (.invokevirtual 161, 3) := by decide +kernel
theorem zd_W_lengthAlong_9 : decode zb_W_lengthAlong 9 = .ok (.ifCond .eq 15, 3) := by decide +kernel
theorem zd_W_lengthAlong_12 : decode zb_W_lengthAlong 12 = .ok (.aload_n 0, 1) := by decide +kernel
theorem zd_W_lengthAlong_13 : decode zb_W_lengthAlong 13 = .ok (.getfield 12, 3) := by decide +kernel
theorem zd_W_lengthAlong_16 : decode zb_W_lengthAlong 16 = .ok (.iload_n 1, 1) := by decide +kernel
theorem zd_W_lengthAlong_17 : decode zb_W_lengthAlong 17 = .ok (.iload_n 3, 1) := by decide +kernel
theorem zd_W_lengthAlong_18 : decode zb_W_lengthAlong 18 = .ok (.invokevirtual 164, 3) := by decide +kernel
theorem zd_W_lengthAlong_21 : decode zb_W_lengthAlong 21 = .ok (.goto 4, 3) := by decide +kernel
theorem zd_W_lengthAlong_24 : decode zb_W_lengthAlong 24 = .ok (.iconst 0, 1) := by decide +kernel
theorem zd_W_lengthAlong_25 : decode zb_W_lengthAlong 25 = .ok (.ireturn, 1) := by decide +kernel
theorem zd_A_goesAlong_0 : decode zb_A_goesAlong 0 = .ok (.aload_n 0, 1) := by decide +kernel
theorem zd_A_goesAlong_1 : decode zb_A_goesAlong 1 = .ok (.getfield 15, 3) := by decide +kernel
theorem zd_A_goesAlong_4 : decode zb_A_goesAlong 4 = .ok (.iload_n 1, 1) := by decide +kernel
theorem zd_A_goesAlong_5 : decode zb_A_goesAlong 5 = .ok (.iaload, 1) := by decide +kernel
theorem zd_A_goesAlong_6 : decode zb_A_goesAlong 6 = .ok (.iload_n 2, 1) := by decide +kernel
theorem zd_A_goesAlong_7 : decode zb_A_goesAlong 7 = .ok (.ishr, 1) := by decide +kernel
theorem zd_A_goesAlong_8 : decode zb_A_goesAlong 8 = .ok (.iconst 1, 1) := by decide +kernel
theorem zd_A_goesAlong_9 : decode zb_A_goesAlong 9 = .ok (.iand, 1) := by decide +kernel
theorem zd_A_goesAlong_10 : decode zb_A_goesAlong 10 = .ok (.ifCond .eq 7, 3) := by decide +kernel
theorem zd_A_goesAlong_13 : decode zb_A_goesAlong 13 = .ok (.iconst 1, 1) := by decide +kernel
theorem zd_A_goesAlong_14 : decode zb_A_goesAlong 14 = .ok (.goto 4, 3) := by decide +kernel
theorem zd_A_goesAlong_17 : decode zb_A_goesAlong 17 = .ok (.iconst 0, 1) := by decide +kernel
theorem zd_A_goesAlong_18 : decode zb_A_goesAlong 18 = .ok (.ireturn, 1) := by decide +kernel
theorem zd_T_rowLength_0 : decode zb_T_rowLength 0 = .ok (.aload_n 0, 1) := by decide +kernel
theorem zd_T_rowLength_1 : decode zb_T_rowLength 1 = .ok (.getfield 25, 3) := by decide +kernel
theorem zd_T_rowLength_4 : decode zb_T_rowLength 4 = .ok (.iload_n 1, 1) := by decide +kernel
theorem zd_T_rowLength_5 : decode zb_T_rowLength 5 = .ok (.iconst 3, 1) := by decide +kernel
theorem zd_T_rowLength_6 : decode zb_T_rowLength 6 = .ok (.imul, 1) := by decide +kernel
theorem zd_T_rowLength_7 : decode zb_T_rowLength 7 = .ok (.iload_n 2, 1) := by decide +kernel
theorem zd_T_rowLength_8 : decode zb_T_rowLength 8 = .ok (.iadd, 1) := by decide +kernel
theorem zd_T_rowLength_9 : decode zb_T_rowLength 9 = .ok (.iaload, 1) := by decide +kernel
theorem zd_T_rowLength_10 : decode zb_T_rowLength 10 = .ok (.ireturn, 1) := by decide +kernel
theorem zd_T_rowAt_0 : decode zb_T_rowAt 0 = .ok (.aload_n 0, 1) := by decide +kernel
theorem zd_T_rowAt_1 : decode zb_T_rowAt 1 = .ok (.getfield 22, 3) := by decide +kernel
theorem zd_T_rowAt_4 : decode zb_T_rowAt 4 = .ok (.iload_n 1, 1) := by decide +kernel
theorem zd_T_rowAt_5 : decode zb_T_rowAt 5 = .ok (.iconst 3, 1) := by decide +kernel
theorem zd_T_rowAt_6 : decode zb_T_rowAt 6 = .ok (.imul, 1) := by decide +kernel
theorem zd_T_rowAt_7 : decode zb_T_rowAt 7 = .ok (.iload_n 2, 1) := by decide +kernel
theorem zd_T_rowAt_8 : decode zb_T_rowAt 8 = .ok (.iadd, 1) := by decide +kernel
theorem zd_T_rowAt_9 : decode zb_T_rowAt 9 = .ok (.iconst 4, 1) := by decide +kernel
theorem zd_T_rowAt_10 : decode zb_T_rowAt 10 = .ok (.imul, 1) := by decide +kernel
theorem zd_T_rowAt_11 : decode zb_T_rowAt 11 = .ok (.iload_n 3, 1) := by decide +kernel
theorem zd_T_rowAt_12 : decode zb_T_rowAt 12 = .ok (.iadd, 1) := by decide +kernel
theorem zd_T_rowAt_13 : decode zb_T_rowAt 13 = .ok (.iaload, 1) := by decide +kernel
theorem zd_T_rowAt_14 : decode zb_T_rowAt 14 = .ok (.ireturn, 1) := by decide +kernel
theorem zd_W_makeOutput_0 : decode zb_W_makeOutput 0 = .ok (.aload_n 0, 1) := by decide +kernel
theorem zd_W_makeOutput_1 : decode zb_W_makeOutput 1 = .ok (.getfield 19, 3) := by decide +kernel
theorem zd_W_makeOutput_4 : decode zb_W_makeOutput 4 = .ok (.iload_n 2, 1) := by decide +kernel
theorem zd_W_makeOutput_5 : decode zb_W_makeOutput 5 = .ok (.invokevirtual 176, 3) := by decide +kernel
theorem zd_W_makeOutput_8 : decode zb_W_makeOutput 8 = .ok (.istore 4, 2) := by decide +kernel
theorem zd_W_makeOutput_10 : decode zb_W_makeOutput 10 = .ok (.iload 4, 2) := by decide +kernel
theorem zd_W_makeOutput_12 : decode zb_W_makeOutput 12 = .ok (.iconst (-1), 1) := by decide +kernel
theorem zd_W_makeOutput_13 : decode zb_W_makeOutput 13 = .ok (.if_icmp .ne 5, 3) := by decide +kernel
theorem zd_W_makeOutput_16 : decode zb_W_makeOutput 16 = .ok (.iconst 1, 1) := by decide +kernel
theorem zd_W_makeOutput_17 : decode zb_W_makeOutput 17 = .ok (.ireturn, 1) := by decide +kernel
theorem zd_W_makeOutput_18 : decode zb_W_makeOutput 18 = .ok (.aload_n 0, 1) := by decide +kernel
theorem zd_W_makeOutput_19 : decode zb_W_makeOutput 19 = .ok (.getfield 26, 3) := by decide +kernel
theorem zd_W_makeOutput_22 : decode zb_W_makeOutput 22 = .ok (.iload_n 1, 1) := by decide +kernel
theorem zd_W_makeOutput_23 : decode zb_W_makeOutput 23 = .ok (.iload 4, 2) := by decide +kernel
theorem zd_W_makeOutput_25 : decode zb_W_makeOutput 25 = .ok (.invokevirtual 126, 3) := by decide +kernel
theorem zd_W_makeOutput_28 : decode zb_W_makeOutput 28 = .ok (.istore 5, 2) := by decide +kernel
theorem zd_W_makeOutput_30 : decode zb_W_makeOutput 30 = .ok (.iload 5, 2) := by decide +kernel
theorem zd_W_makeOutput_32 : decode zb_W_makeOutput 32 = .ok (.iconst (-1), 1) := by decide +kernel
theorem zd_W_makeOutput_33 : decode zb_W_makeOutput 33 = .ok (.if_icmp .ne 17, 3) := by decide +kernel
theorem zd_W_makeOutput_36 : decode zb_W_makeOutput 36 = .ok (.aload_n 0, 1) := by decide +kernel
theorem zd_W_makeOutput_37 : decode zb_W_makeOutput 37 = .ok (.getfield 26, 3) := by decide +kernel
theorem zd_W_makeOutput_40 : decode zb_W_makeOutput 40 = .ok (.iload_n 1, 1) := by decide +kernel
theorem zd_W_makeOutput_41 : decode zb_W_makeOutput 41 = .ok (.iload 4, 2) := by decide +kernel
theorem zd_W_makeOutput_43 : decode zb_W_makeOutput 43 = .ok (.iload_n 2, 1) := by decide +kernel
theorem zd_W_makeOutput_44 : decode zb_W_makeOutput 44 = .ok (.iload_n 3, 1) := by decide +kernel
theorem zd_W_makeOutput_45 : decode zb_W_makeOutput 45 = .ok (.invokevirtual 179, 3) := by decide +kernel
theorem zd_W_makeOutput_48 : decode zb_W_makeOutput 48 = .ok (.iconst 1, 1) := by decide +kernel
theorem zd_W_makeOutput_49 : decode zb_W_makeOutput 49 = .ok (.ireturn, 1) := by decide +kernel
theorem zd_W_makeOutput_50 : decode zb_W_makeOutput 50 = .ok (.aload_n 0, 1) := by decide +kernel
theorem zd_W_makeOutput_51 : decode zb_W_makeOutput 51 = .ok (.getfield 30, 3) := by decide +kernel
theorem zd_W_makeOutput_54 : decode zb_W_makeOutput 54 = .ok (.iconst 0, 1) := by decide +kernel
theorem zd_W_makeOutput_55 : decode zb_W_makeOutput 55 = .ok (.iload_n 1, 1) := by decide +kernel
theorem zd_W_makeOutput_56 : decode zb_W_makeOutput 56 = .ok (.iastore, 1) := by decide +kernel
theorem zd_W_makeOutput_57 : decode zb_W_makeOutput 57 = .ok (.aload_n 0, 1) := by decide +kernel
theorem zd_W_makeOutput_58 : decode zb_W_makeOutput 58 = .ok (.getfield 30, 3) := by decide +kernel
theorem zd_W_makeOutput_61 : decode zb_W_makeOutput 61 = .ok (.iconst 1, 1) := by decide +kernel
theorem zd_W_makeOutput_62 : decode zb_W_makeOutput 62 = .ok (.iload_n 2, 1) := by decide +kernel
theorem zd_W_makeOutput_63 : decode zb_W_makeOutput 63 = .ok (.iastore, 1) := by decide +kernel
theorem zd_W_makeOutput_64 : decode zb_W_makeOutput 64 = .ok (.aload_n 0, 1) := by decide +kernel
