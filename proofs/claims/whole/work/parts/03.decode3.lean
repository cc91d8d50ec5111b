theorem zd_R_stands_13 : decode zb_R_stands 13 = .ok (.aload_n 0, 1) := by decide +kernel
theorem zd_R_stands_14 : decode zb_R_stands 14 = .ok (.getfield 7, 3) := by decide +kernel
theorem zd_R_stands_17 : decode zb_R_stands 17 = .ok (.iload_n 1, 1) := by decide +kernel
theorem zd_R_stands_18 : decode zb_R_stands 18 = .ok (.iaload, 1) := by decide +kernel
theorem zd_R_stands_19 : decode zb_R_stands 19 = .ok (.goto 4, 3) := by decide +kernel
theorem zd_R_stands_22 : decode zb_R_stands 22 = .ok (.iconst (-1), 1) := by decide +kernel
theorem zd_R_stands_23 : decode zb_R_stands 23 = .ok (.ireturn, 1) := by decide +kernel
theorem zd_R_add_0 : decode zb_R_add 0 = .ok (.aload_n 0, 1) := by decide +kernel
theorem zd_R_add_1 : decode zb_R_add 1 = .ok (.iconst 0, 1) := by decide +kernel
theorem zd_R_add_2 : decode zb_R_add 2 = .ok (.putfield 72, 3) := by decide +kernel
theorem zd_R_add_5 : decode zb_R_add 5 = .ok (.aload_n 0, 1) := by decide +kernel
theorem zd_R_add_6 : decode zb_R_add 6 = .ok (.iload_n 1, 1) := by decide +kernel
theorem zd_R_add_7 : decode zb_R_add 7 = .ok (.invokevirtual 93, 3) := by decide +kernel
theorem zd_R_add_10 : decode zb_R_add 10 = .ok (.ifCond .eq 39, 3) := by decide +kernel
theorem zd_R_add_13 : decode zb_R_add 13 = .ok (.aload_n 0, 1) := by decide +kernel
theorem zd_R_add_14 : decode zb_R_add 14 = .ok (.iload_n 3, 1) := by decide +kernel
theorem zd_R_add_15 : decode zb_R_add 15 = .ok (.invokevirtual 82, 3) := by decide +kernel
theorem zd_R_add_18 : decode zb_R_add 18 = .ok (.ifCond .eq 31, 3) := by decide +kernel
theorem zd_R_add_21 : decode zb_R_add 21 = .ok (.iload_n 2, 1) := by decide +kernel
theorem zd_R_add_22 : decode zb_R_add 22 = .ok (.ifCond .lt 27, 3) := by decide +kernel
theorem zd_R_add_25 : decode zb_R_add 25 = .ok (.iload_n 2, 1) := by decide +kernel
theorem zd_R_add_26 : decode zb_R_add 26 = .ok (.iconst 2, 1) := by decide +kernel
theorem zd_R_add_27 : decode zb_R_add 27 = .ok (.if_icmp .gt 22, 3) := by decide +kernel
theorem zd_R_add_30 : decode zb_R_add 30 = .ok (.iload_n 3, 1) := by decide +kernel
theorem zd_R_add_31 : decode zb_R_add 31 = .ok (.iload_n 1, 1) := by decide +kernel
theorem zd_R_add_32 : decode zb_R_add 32 = .ok (.if_icmp .ge 17, 3) := by decide +kernel
theorem zd_R_add_35 : decode zb_R_add 35 = .ok (.aload_n 0, 1) := by decide +kernel
theorem zd_R_add_36 : decode zb_R_add 36 = .ok (.getfield 20, 3) := by decide +kernel
theorem zd_R_add_39 : decode zb_R_add 39 = .ok (.iconst 3, 1) := by decide +kernel
theorem zd_R_add_40 : decode zb_R_add 40 = .ok (.iload_n 1, 1) := by decide +kernel
theorem zd_R_add_41 : decode zb_R_add 41 = .ok (.imul, 1) := by decide +kernel
theorem zd_R_add_42 : decode zb_R_add 42 = .ok (.iload_n 2, 1) := by decide +kernel
theorem zd_R_add_43 : decode zb_R_add 43 = .ok (.iadd, 1) := by decide +kernel
theorem zd_R_add_44 : decode zb_R_add 44 = .ok (.iaload, 1) := by decide +kernel
theorem zd_R_add_45 : decode zb_R_add 45 = .ok (.iconst 4, 1) := by decide +kernel
theorem zd_R_add_46 : decode zb_R_add 46 = .ok (.if_icmp .ne 5, 3) := by decide +kernel
theorem zd_R_add_49 : decode zb_R_add 49 = .ok (.iconst 0, 1) := by decide +kernel
theorem zd_R_add_50 : decode zb_R_add 50 = .ok (.ireturn, 1) := by decide +kernel
theorem zd_R_add_51 : decode zb_R_add 51 = .ok (.aload_n 0, 1) := by decide +kernel
theorem zd_R_add_52 : decode zb_R_add 52 = .ok (.getfield 23, 3) := by decide +kernel
theorem zd_R_add_55 : decode zb_R_add 55 = .ok (.bipush 12, 2) := by decide +kernel
theorem zd_R_add_57 : decode zb_R_add 57 = .ok (.iload_n 1, 1) := by decide +kernel
theorem zd_R_add_58 : decode zb_R_add 58 = .ok (.imul, 1) := by decide +kernel
theorem zd_R_add_59 : decode zb_R_add 59 = .ok (.iconst 4, 1) := by decide +kernel
theorem zd_R_add_60 : decode zb_R_add 60 = .ok (.iload_n 2, 1) := by decide +kernel
theorem zd_R_add_61 : decode zb_R_add 61 = .ok (.imul, 1) := by decide +kernel
theorem zd_R_add_62 : decode zb_R_add 62 = .ok (.iadd, 1) := by decide +kernel
theorem zd_R_add_63 : decode zb_R_add 63 = .ok (.aload_n 0, 1) := by decide +kernel
theorem zd_R_add_64 : decode zb_R_add 64 = .ok (.getfield 20, 3) := by decide +kernel
theorem zd_R_add_67 : decode zb_R_add 67 = .ok (.iconst 3, 1) := by decide +kernel
theorem zd_R_add_68 : decode zb_R_add 68 = .ok (.iload_n 1, 1) := by decide +kernel
theorem zd_R_add_69 : decode zb_R_add 69 = .ok (.imul, 1) := by decide +kernel
theorem zd_R_add_70 : decode zb_R_add 70 = .ok (.iload_n 2, 1) := by decide +kernel
theorem zd_R_add_71 : decode zb_R_add 71 = .ok (.iadd, 1) := by decide +kernel
theorem zd_R_add_72 : decode zb_R_add 72 = .ok (.iaload, 1) := by decide +kernel
theorem zd_R_add_73 : decode zb_R_add 73 = .ok (.iadd, 1) := by decide +kernel
theorem zd_R_add_74 : decode zb_R_add 74 = .ok (.iload_n 3, 1) := by decide +kernel
theorem zd_R_add_75 : decode zb_R_add 75 = .ok (.iastore, 1) := by decide +kernel
theorem zd_R_add_76 : decode zb_R_add 76 = .ok (.aload_n 0, 1) := by decide +kernel
theorem zd_R_add_77 : decode zb_R_add 77 = .ok (.getfield 20, 3) := by decide +kernel
theorem zd_R_add_80 : decode zb_R_add 80 = .ok (.iconst 3, 1) := by decide +kernel
theorem zd_R_add_81 : decode zb_R_add 81 = .ok (.iload_n 1, 1) := by decide +kernel
theorem zd_R_add_82 : decode zb_R_add 82 = .ok (.imul, 1) := by decide +kernel
theorem zd_R_add_83 : decode zb_R_add 83 = .ok (.iload_n 2, 1) := by decide +kernel
theorem zd_R_add_84 : decode zb_R_add 84 = .ok (.iadd, 1) := by decide +kernel
theorem zd_R_add_85 : decode zb_R_add 85 = .ok (.dup2, 1) := by decide +kernel
theorem zd_R_add_86 : decode zb_R_add 86 = .ok (.iaload, 1) := by decide +kernel
theorem zd_R_add_87 : decode zb_R_add 87 = .ok (.iconst 1, 1) := by decide +kernel
theorem zd_R_add_88 : decode zb_R_add 88 = .ok (.iadd, 1) := by decide +kernel
theorem zd_R_add_89 : decode zb_R_add 89 = .ok (.iastore, 1) := by decide +kernel
theorem zd_R_add_90 : decode zb_R_add 90 = .ok (.aload_n 0, 1) := by decide +kernel
theorem zd_R_add_91 : decode zb_R_add 91 = .ok (.iload_n 1, 1) := by decide +kernel
theorem zd_R_add_92 : decode zb_R_add 92 = .ok (.invokevirtual 96, 3) := by decide +kernel
theorem zd_R_add_95 : decode zb_R_add 95 = .ok (.iconst 1, 1) := by decide +kernel
theorem zd_R_add_96 : decode zb_R_add 96 = .ok (.ireturn, 1) := by decide +kernel
theorem zd_R_isOwn_0 : decode zb_R_isOwn 0 = .ok (.aload_n 0, 1) := by decide +kernel
theorem zd_R_isOwn_1 : decode zb_R_isOwn 1 = .ok (.iload_n 1, 1) := by decide +kernel
theorem zd_R_isOwn_2 : decode zb_R_isOwn 2 = .ok (.invokevirtual 82, 3) := by decide +kernel
theorem zd_R_isOwn_5 : decode zb_R_isOwn 5 = .ok (.ifCond .eq 17, 3) := by decide +kernel
theorem zd_R_isOwn_8 : decode zb_R_isOwn 8 = .ok (.aload_n 0, 1) := by decide +kernel
theorem zd_R_isOwn_9 : decode zb_R_isOwn 9 = .ok (.getfield 7, 3) := by decide +kernel
theorem zd_R_isOwn_12 : decode zb_R_isOwn 12 = .ok (.iload_n 1, 1) := by decide +kernel
theorem zd_R_isOwn_13 : decode zb_R_isOwn 13 = .ok (.iaload, 1) := by decide +kernel
theorem zd_R_isOwn_14 : decode zb_R_isOwn 14 = .ok (.iload_n 1, 1) := by decide +kernel
theorem zd_R_isOwn_15 : decode zb_R_isOwn 15 = .ok (.if_icmp .ne 7, 3) := by decide +kernel
theorem zd_R_isOwn_18 : decode zb_R_isOwn 18 = .ok (.iconst 1, 1) := by decide +kernel
theorem zd_R_isOwn_19 : decode zb_R_isOwn 19 = .ok (.goto 4, 3) := by decide +kernel
theorem zd_R_isOwn_22 : decode zb_R_isOwn 22 = .ok (.iconst 0, 1) := by decide +kernel
theorem zd_R_isOwn_23 : decode zb_R_isOwn 23 = .ok (.ireturn, 1) := by decide +kernel
theorem zd_R_forgetFrom_0 : decode zb_R_forgetFrom 0 = .ok (.iconst 0, 1) := by decide +kernel
theorem zd_R_forgetFrom_1 : decode zb_R_forgetFrom 1 = .ok (.istore_n 2, 1) := by decide +kernel
theorem zd_R_forgetFrom_2 : decode zb_R_forgetFrom 2 = .ok (.iload_n 2, 1) := by decide +kernel
theorem zd_R_forgetFrom_3 : decode zb_R_forgetFrom 3 = .ok (.aload_n 0, 1) := by decide +kernel
theorem zd_R_forgetFrom_4 : decode zb_R_forgetFrom 4 = .ok (.getfield 76, 3) := by decide +kernel
theorem zd_R_forgetFrom_7 : decode zb_R_forgetFrom 7 = .ok (.if_icmp .ge 57, 3) := by decide +kernel
theorem zd_R_forgetFrom_10 : decode zb_R_forgetFrom 10 = .ok (.aload_n 0, 1) := by decide +kernel
theorem zd_R_forgetFrom_11 : decode zb_R_forgetFrom 11 = .ok (.getfield 68, 3) := by decide +kernel
theorem zd_R_forgetFrom_14 : decode zb_R_forgetFrom 14 = .ok (.iload_n 2, 1) := by decide +kernel
theorem zd_R_forgetFrom_15 : decode zb_R_forgetFrom 15 = .ok (.iload_n 2, 1) := by decide +kernel
theorem zd_R_forgetFrom_16 : decode zb_R_forgetFrom 16 = .ok (.iload_n 1, 1) := by decide +kernel
theorem zd_R_forgetFrom_17 : decode zb_R_forgetFrom 17 = .ok (.if_icmp .eq 21, 3) := by decide +kernel
theorem zd_R_forgetFrom_20 : decode zb_R_forgetFrom 20 = .ok (.aload_n 0, 1) := by decide +kernel
theorem zd_R_forgetFrom_21 : decode zb_R_forgetFrom 21 = .ok (.getfield 7, 3) := by decide +kernel
theorem zd_R_forgetFrom_24 : decode zb_R_forgetFrom 24 = .ok (.iload_n 2, 1) := by decide +kernel
theorem zd_R_forgetFrom_25 : decode zb_R_forgetFrom 25 = .ok (.iaload, 1) := by decide +kernel
theorem zd_R_forgetFrom_26 : decode zb_R_forgetFrom 26 = .ok (.iload_n 2, 1) := by decide +kernel
theorem zd_R_forgetFrom_27 : decode zb_R_forgetFrom 27 = .ok (.if_icmp .ne 15, 3) := by decide +kernel
theorem zd_R_forgetFrom_30 : decode zb_R_forgetFrom 30 = .ok (.aload_n 0, 1) := by decide +kernel
theorem zd_R_forgetFrom_31 : decode zb_R_forgetFrom 31 = .ok (.iload_n 2, 1) := by decide +kernel
theorem zd_R_forgetFrom_32 : decode zb_R_forgetFrom 32 = .ok (.invokevirtual 86, 3) := by decide +kernel
theorem zd_R_forgetFrom_35 : decode zb_R_forgetFrom 35 = .ok (.ifCond .eq 7, 3) := by decide +kernel
theorem zd_R_forgetFrom_38 : decode zb_R_forgetFrom 38 = .ok (.iconst 1, 1) := by decide +kernel
theorem zd_R_forgetFrom_39 : decode zb_R_forgetFrom 39 = .ok (.goto 4, 3) := by decide +kernel
theorem zd_R_forgetFrom_42 : decode zb_R_forgetFrom 42 = .ok (.iconst 0, 1) := by decide +kernel
theorem zd_R_forgetFrom_43 : decode zb_R_forgetFrom 43 = .ok (.bastore, 1) := by decide +kernel
theorem zd_R_forgetFrom_44 : decode zb_R_forgetFrom 44 = .ok (.aload_n 0, 1) := by decide +kernel
theorem zd_R_forgetFrom_45 : decode zb_R_forgetFrom 45 = .ok (.getfield 68, 3) := by decide +kernel
theorem zd_R_forgetFrom_48 : decode zb_R_forgetFrom 48 = .ok (.iload_n 2, 1) := by decide +kernel
theorem zd_R_forgetFrom_49 : decode zb_R_forgetFrom 49 = .ok (.baload, 1) := by decide +kernel
theorem zd_R_forgetFrom_50 : decode zb_R_forgetFrom 50 = .ok (.ifCond .eq 8, 3) := by decide +kernel
theorem zd_R_forgetFrom_53 : decode zb_R_forgetFrom 53 = .ok (.aload_n 0, 1) := by decide +kernel
theorem zd_R_forgetFrom_54 : decode zb_R_forgetFrom 54 = .ok (.iload_n 2, 1) := by decide +kernel
theorem zd_R_forgetFrom_55 : decode zb_R_forgetFrom 55 = .ok (.invokevirtual 89, 3) := by decide +kernel
theorem zd_R_forgetFrom_58 : decode zb_R_forgetFrom 58 = .ok (.iinc 2 1, 3) := by decide +kernel
theorem zd_R_forgetFrom_61 : decode zb_R_forgetFrom 61 = .ok (.goto (-59), 3) := by decide +kernel
theorem zd_R_forgetFrom_64 : decode zb_R_forgetFrom 64 = .ok (.return_, 1) := by decide +kernel
theorem zd_R_hasTouched_0 : decode zb_R_hasTouched 0 = .ok (.iconst 0, 1) := by decide +kernel
theorem zd_R_hasTouched_1 : decode zb_R_hasTouched 1 = .ok (.istore_n 2, 1) := by decide +kernel
theorem zd_R_hasTouched_2 : decode zb_R_hasTouched 2 = .ok (.iconst 0, 1) := by decide +kernel
theorem zd_R_hasTouched_3 : decode zb_R_hasTouched 3 = .ok (.istore_n 3, 1) := by decide +kernel
theorem zd_R_hasTouched_4 : decode zb_R_hasTouched 4 = .ok (.iload_n 3, 1) := by decide +kernel
theorem zd_R_hasTouched_5 : decode zb_R_hasTouched 5 = .ok (.iconst 3, 1) := by decide +kernel
theorem zd_R_hasTouched_6 : decode zb_R_hasTouched 6 = .ok (.if_icmp .ge 72, 3) := by decide +kernel
theorem zd_R_hasTouched_9 : decode zb_R_hasTouched 9 = .ok (.iconst 0, 1) := by decide +kernel
theorem zd_R_hasTouched_10 : decode zb_R_hasTouched 10 = .ok (.istore 4, 2) := by decide +kernel
theorem zd_R_hasTouched_12 : decode zb_R_hasTouched 12 = .ok (.iload 4, 2) := by decide +kernel
theorem zd_R_hasTouched_14 : decode zb_R_hasTouched 14 = .ok (.aload_n 0, 1) := by decide +kernel
theorem zd_R_hasTouched_15 : decode zb_R_hasTouched 15 = .ok (.getfield 20, 3) := by decide +kernel
theorem zd_R_hasTouched_18 : decode zb_R_hasTouched 18 = .ok (.iconst 3, 1) := by decide +kernel
theorem zd_R_hasTouched_19 : decode zb_R_hasTouched 19 = .ok (.iload_n 1, 1) := by decide +kernel
theorem zd_R_hasTouched_20 : decode zb_R_hasTouched 20 = .ok (.imul, 1) := by decide +kernel
theorem zd_R_hasTouched_21 : decode zb_R_hasTouched 21 = .ok (.iload_n 3, 1) := by decide +kernel
theorem zd_R_hasTouched_22 : decode zb_R_hasTouched 22 = .ok (.iadd, 1) := by decide +kernel
theorem zd_R_hasTouched_23 : decode zb_R_hasTouched 23 = .ok (.iaload, 1) := by decide +kernel
theorem zd_R_hasTouched_24 : decode zb_R_hasTouched 24 = .ok (.if_icmp .ge 48, 3) := by decide +kernel
theorem zd_R_hasTouched_27 : decode zb_R_hasTouched 27 = .ok (.iload_n 2, 1) := by decide +kernel
theorem zd_R_hasTouched_28 : decode zb_R_hasTouched 28 = .ok (.ifCond .ne 32, 3) := by decide +kernel
theorem zd_R_hasTouched_31 : decode zb_R_hasTouched 31 = .ok (.aload_n 0, 1) := by decide +kernel
theorem zd_R_hasTouched_32 : decode zb_R_hasTouched 32 = .ok (.getfield 68, 3) := by decide +kernel
theorem zd_R_hasTouched_35 : decode zb_R_hasTouched 35 = .ok (.aload_n 0, 1) := by decide +kernel
theorem zd_R_hasTouched_36 : decode zb_R_hasTouched 36 = .ok (.getfield 7, 3) := by decide +kernel
theorem zd_R_hasTouched_39 : decode zb_R_hasTouched 39 = .ok (.aload_n 0, 1) := by decide +kernel
theorem zd_R_hasTouched_40 : decode zb_R_hasTouched 40 = .ok (.getfield 23, 3) := by decide +kernel
theorem zd_R_hasTouched_43 : decode zb_R_hasTouched 43 = .ok (.bipush 12, 2) := by decide +kernel
theorem zd_R_hasTouched_45 : decode zb_R_hasTouched 45 = .ok (.iload_n 1, 1) := by decide +kernel
theorem zd_R_hasTouched_46 : decode zb_R_hasTouched 46 = .ok (.imul, 1) := by decide +kernel
theorem zd_R_hasTouched_47 : decode zb_R_hasTouched 47 = .ok (.iconst 4, 1) := by decide +kernel
theorem zd_R_hasTouched_48 : decode zb_R_hasTouched 48 = .ok (.iload_n 3, 1) := by decide +kernel
theorem zd_R_hasTouched_49 : decode zb_R_hasTouched 49 = .ok (.imul, 1) := by decide +kernel
theorem zd_R_hasTouched_50 : decode zb_R_hasTouched 50 = .ok (.iadd, 1) := by decide +kernel
theorem zd_R_hasTouched_51 : decode zb_R_hasTouched 51 = .ok (.iload 4, 2) := by decide +kernel
theorem zd_R_hasTouched_53 : decode zb_R_hasTouched 53 = .ok (.iadd, 1) := by decide +kernel
theorem zd_R_hasTouched_54 : decode zb_R_hasTouched 54 = .ok (.iaload, 1) := by decide +kernel
theorem zd_R_hasTouched_55 : decode zb_R_hasTouched 55 = .ok (.iaload, 1) := by decide +kernel
theorem zd_R_hasTouched_56 : decode zb_R_hasTouched 56 = .ok (.baload, 1) := by decide +kernel
theorem zd_R_hasTouched_57 : decode zb_R_hasTouched 57 = .ok (.ifCond .eq 7, 3) := by decide +kernel
theorem zd_R_hasTouched_60 : decode zb_R_hasTouched 60 = .ok (.iconst 1, 1) := by decide +kernel
theorem zd_R_hasTouched_61 : decode zb_R_hasTouched 61 = .ok (.goto 4, 3) := by decide +kernel
theorem zd_R_hasTouched_64 : decode zb_R_hasTouched 64 = .ok (.iconst 0, 1) := by decide +kernel
theorem zd_R_hasTouched_65 : decode zb_R_hasTouched 65 = .ok (.istore_n 2, 1) := by decide +kernel
theorem zd_R_hasTouched_66 : decode zb_R_hasTouched 66 = .ok (.iinc 4 1, 3) := by decide +kernel
theorem zd_R_hasTouched_69 : decode zb_R_hasTouched 69 = .ok (.goto (-57), 3) := by decide +kernel
theorem zd_R_hasTouched_72 : decode zb_R_hasTouched 72 = .ok (.iinc 3 1, 3) := by decide +kernel
theorem zd_R_hasTouched_75 : decode zb_R_hasTouched 75 = .ok (.goto (-71), 3) := by decide +kernel
theorem zd_R_hasTouched_78 : decode zb_R_hasTouched 78 = .ok (.iload_n 2, 1) := by decide +kernel
theorem zd_R_hasTouched_79 : decode zb_R_hasTouched 79 = .ok (.ireturn, 1) := by decide +kernel
theorem zd_R_forgetTarget_0 : decode zb_R_forgetTarget 0 = .ok (.iconst 0, 1) := by decide +kernel
theorem zd_R_forgetTarget_1 : decode zb_R_forgetTarget 1 = .ok (.istore_n 2, 1) := by decide +kernel
theorem zd_R_forgetTarget_2 : decode zb_R_forgetTarget 2 = .ok (.iload_n 2, 1) := by decide +kernel
theorem zd_R_forgetTarget_3 : decode zb_R_forgetTarget 3 = .ok (.sipush 128, 3) := by decide +kernel
theorem zd_R_forgetTarget_6 : decode zb_R_forgetTarget 6 = .ok (.if_icmp .ge 22, 3) := by decide +kernel
theorem zd_R_forgetTarget_9 : decode zb_R_forgetTarget 9 = .ok (.aload_n 0, 1) := by decide +kernel
theorem zd_R_forgetTarget_10 : decode zb_R_forgetTarget 10 = .ok (.getfield 47, 3) := by decide +kernel
theorem zd_R_forgetTarget_13 : decode zb_R_forgetTarget 13 = .ok (.sipush 128, 3) := by decide +kernel
theorem zd_R_forgetTarget_16 : decode zb_R_forgetTarget 16 = .ok (.iload_n 1, 1) := by decide +kernel
theorem zd_R_forgetTarget_17 : decode zb_R_forgetTarget 17 = .ok (.imul, 1) := by decide +kernel
theorem zd_R_forgetTarget_18 : decode zb_R_forgetTarget 18 = .ok (.iload_n 2, 1) := by decide +kernel
theorem zd_R_forgetTarget_19 : decode zb_R_forgetTarget 19 = .ok (.iadd, 1) := by decide +kernel
theorem zd_R_forgetTarget_20 : decode zb_R_forgetTarget 20 = .ok (.iconst 0, 1) := by decide +kernel
theorem zd_R_forgetTarget_21 : decode zb_R_forgetTarget 21 = .ok (.iastore, 1) := by decide +kernel
theorem zd_R_forgetTarget_22 : decode zb_R_forgetTarget 22 = .ok (.iinc 2 1, 3) := by decide +kernel
theorem zd_R_forgetTarget_25 : decode zb_R_forgetTarget 25 = .ok (.goto (-23), 3) := by decide +kernel
theorem zd_R_forgetTarget_28 : decode zb_R_forgetTarget 28 = .ok (.iconst 0, 1) := by decide +kernel
theorem zd_R_forgetTarget_29 : decode zb_R_forgetTarget 29 = .ok (.istore_n 2, 1) := by decide +kernel
theorem zd_R_forgetTarget_30 : decode zb_R_forgetTarget 30 = .ok (.iload_n 2, 1) := by decide +kernel
theorem zd_R_forgetTarget_31 : decode zb_R_forgetTarget 31 = .ok (.bipush 10, 2) := by decide +kernel
theorem zd_R_forgetTarget_33 : decode zb_R_forgetTarget 33 = .ok (.if_icmp .ge 21, 3) := by decide +kernel
theorem zd_R_forgetTarget_36 : decode zb_R_forgetTarget 36 = .ok (.aload_n 0, 1) := by decide +kernel
theorem zd_R_forgetTarget_37 : decode zb_R_forgetTarget 37 = .ok (.getfield 56, 3) := by decide +kernel
theorem zd_R_forgetTarget_40 : decode zb_R_forgetTarget 40 = .ok (.bipush 10, 2) := by decide +kernel
theorem zd_R_forgetTarget_42 : decode zb_R_forgetTarget 42 = .ok (.iload_n 1, 1) := by decide +kernel
theorem zd_R_forgetTarget_43 : decode zb_R_forgetTarget 43 = .ok (.imul, 1) := by decide +kernel
theorem zd_R_forgetTarget_44 : decode zb_R_forgetTarget 44 = .ok (.iload_n 2, 1) := by decide +kernel
theorem zd_R_forgetTarget_45 : decode zb_R_forgetTarget 45 = .ok (.iadd, 1) := by decide +kernel
theorem zd_R_forgetTarget_46 : decode zb_R_forgetTarget 46 = .ok (.iconst (-1), 1) := by decide +kernel
theorem zd_R_forgetTarget_47 : decode zb_R_forgetTarget 47 = .ok (.iastore, 1) := by decide +kernel
theorem zd_R_forgetTarget_48 : decode zb_R_forgetTarget 48 = .ok (.iinc 2 1, 3) := by decide +kernel
theorem zd_R_forgetTarget_51 : decode zb_R_forgetTarget 51 = .ok (.goto (-21), 3) := by decide +kernel
theorem zd_R_forgetTarget_54 : decode zb_R_forgetTarget 54 = .ok (.return_, 1) := by decide +kernel
theorem zd_R_change_0 : decode zb_R_change 0 = .ok (.aload_n 0, 1) := by decide +kernel
theorem zd_R_change_1 : decode zb_R_change 1 = .ok (.iconst 0, 1) := by decide +kernel
theorem zd_R_change_2 : decode zb_R_change 2 = .ok (.putfield 72, 3) := by decide +kernel
theorem zd_R_change_5 : decode zb_R_change 5 = .ok (.aload_n 0, 1) := by decide +kernel
theorem zd_R_change_6 : decode zb_R_change 6 = .ok (.iload_n 1, 1) := by decide +kernel
theorem zd_R_change_7 : decode zb_R_change 7 = .ok (.invokevirtual 93, 3) := by decide +kernel
theorem zd_R_change_10 : decode zb_R_change 10 = .ok (.ifCond .ne 5, 3) := by decide +kernel
theorem zd_R_change_13 : decode zb_R_change 13 = .ok (.iconst 0, 1) := by decide +kernel
theorem zd_R_change_14 : decode zb_R_change 14 = .ok (.ireturn, 1) := by decide +kernel
theorem zd_R_change_15 : decode zb_R_change 15 = .ok (.aload_n 0, 1) := by decide +kernel
theorem zd_R_change_16 : decode zb_R_change 16 = .ok (.getfield 13, 3) := by decide +kernel
theorem zd_R_change_19 : decode zb_R_change 19 = .ok (.iload_n 1, 1) := by decide +kernel
theorem zd_R_change_20 : decode zb_R_change 20 = .ok (.laload, 1) := by decide +kernel
theorem zd_R_change_21 : decode zb_R_change 21 = .ok (.lload_n 2, 1) := by decide +kernel
theorem zd_R_change_22 : decode zb_R_change 22 = .ok (.lcmp, 1) := by decide +kernel
theorem zd_R_change_23 : decode zb_R_change 23 = .ok (.ifCond .ne 18, 3) := by decide +kernel
theorem zd_R_change_26 : decode zb_R_change 26 = .ok (.aload_n 0, 1) := by decide +kernel
theorem zd_R_change_27 : decode zb_R_change 27 = .ok (.getfield 17, 3) := by decide +kernel
theorem zd_R_change_30 : decode zb_R_change 30 = .ok (.iload_n 1, 1) := by decide +kernel
theorem zd_R_change_31 : decode zb_R_change 31 = .ok (.iaload, 1) := by decide +kernel
theorem zd_R_change_32 : decode zb_R_change 32 = .ok (.iload 4, 2) := by decide +kernel
theorem zd_R_change_34 : decode zb_R_change 34 = .ok (.sipush 255, 3) := by decide +kernel
theorem zd_R_change_37 : decode zb_R_change 37 = .ok (.iand, 1) := by decide +kernel
theorem zd_R_change_38 : decode zb_R_change 38 = .ok (.if_icmp .eq 7, 3) := by decide +kernel
theorem zd_R_change_41 : decode zb_R_change 41 = .ok (.iconst 1, 1) := by decide +kernel
theorem zd_R_change_42 : decode zb_R_change 42 = .ok (.goto 4, 3) := by decide +kernel
theorem zd_R_change_45 : decode zb_R_change 45 = .ok (.iconst 0, 1) := by decide +kernel
theorem zd_R_change_46 : decode zb_R_change 46 = .ok (.istore 5, 2) := by decide +kernel
theorem zd_R_change_48 : decode zb_R_change 48 = .ok (.aload_n 0, 1) := by decide +kernel
theorem zd_R_change_49 : decode zb_R_change 49 = .ok (.getfield 13, 3) := by decide +kernel
theorem zd_R_change_52 : decode zb_R_change 52 = .ok (.iload_n 1, 1) := by decide +kernel
theorem zd_R_change_53 : decode zb_R_change 53 = .ok (.lload_n 2, 1) := by decide +kernel
theorem zd_R_change_54 : decode zb_R_change 54 = .ok (.lastore, 1) := by decide +kernel
theorem zd_R_change_55 : decode zb_R_change 55 = .ok (.aload_n 0, 1) := by decide +kernel
theorem zd_R_change_56 : decode zb_R_change 56 = .ok (.getfield 17, 3) := by decide +kernel
theorem zd_R_change_59 : decode zb_R_change 59 = .ok (.iload_n 1, 1) := by decide +kernel
theorem zd_R_change_60 : decode zb_R_change 60 = .ok (.iload 4, 2) := by decide +kernel
theorem zd_R_change_62 : decode zb_R_change 62 = .ok (.sipush 255, 3) := by decide +kernel
theorem zd_R_change_65 : decode zb_R_change 65 = .ok (.iand, 1) := by decide +kernel
theorem zd_R_change_66 : decode zb_R_change 66 = .ok (.iastore, 1) := by decide +kernel
theorem zd_R_change_67 : decode zb_R_change 67 = .ok (.iload 5, 2) := by decide +kernel
theorem zd_R_change_69 : decode zb_R_change 69 = .ok (.ifCond .eq 8, 3) := by decide +kernel
theorem zd_R_change_72 : decode zb_R_change 72 = .ok (.aload_n 0, 1) := by decide +kernel
theorem zd_R_change_73 : decode zb_R_change 73 = .ok (.iload_n 1, 1) := by decide +kernel
theorem zd_R_change_74 : decode zb_R_change 74 = .ok (.invokevirtual 96, 3) := by decide +kernel
theorem zd_R_change_77 : decode zb_R_change 77 = .ok (.iconst 1, 1) := by decide +kernel
theorem zd_R_change_78 : decode zb_R_change 78 = .ok (.ireturn, 1) := by decide +kernel
theorem zd_R_aspect_0 : decode zb_R_aspect 0 = .ok (.aload_n 0, 1) := by decide +kernel
theorem zd_R_aspect_1 : decode zb_R_aspect 1 = .ok (.iconst 0, 1) := by decide +kernel
theorem zd_R_aspect_2 : decode zb_R_aspect 2 = .ok (.putfield 72, 3) := by decide +kernel
theorem zd_R_aspect_5 : decode zb_R_aspect 5 = .ok (.aload_n 0, 1) := by decide +kernel
theorem zd_R_aspect_6 : decode zb_R_aspect 6 = .ok (.getfield 79, 3) := by decide +kernel
theorem zd_R_aspect_9 : decode zb_R_aspect 9 = .ok (.bipush 8, 2) := by decide +kernel
theorem zd_R_aspect_11 : decode zb_R_aspect 11 = .ok (.if_icmp .eq 25, 3) := by decide +kernel
theorem zd_R_aspect_14 : decode zb_R_aspect 14 = .ok (.iload_n 1, 1) := by decide +kernel
theorem zd_R_aspect_15 : decode zb_R_aspect 15 = .ok (.ifCond .lt 21, 3) := by decide +kernel
theorem zd_R_aspect_18 : decode zb_R_aspect 18 = .ok (.iload_n 1, 1) := by decide +kernel
theorem zd_R_aspect_19 : decode zb_R_aspect 19 = .ok (.iconst 3, 1) := by decide +kernel
theorem zd_R_aspect_20 : decode zb_R_aspect 20 = .ok (.if_icmp .gt 16, 3) := by decide +kernel
theorem zd_R_aspect_23 : decode zb_R_aspect 23 = .ok (.iload 5, 2) := by decide +kernel
theorem zd_R_aspect_25 : decode zb_R_aspect 25 = .ok (.iconst (-1), 1) := by decide +kernel
theorem zd_R_aspect_26 : decode zb_R_aspect 26 = .ok (.if_icmp .lt 10, 3) := by decide +kernel
theorem zd_R_aspect_29 : decode zb_R_aspect 29 = .ok (.iload 5, 2) := by decide +kernel
theorem zd_R_aspect_31 : decode zb_R_aspect 31 = .ok (.bipush 10, 2) := by decide +kernel
theorem zd_R_aspect_33 : decode zb_R_aspect 33 = .ok (.if_icmp .lt 5, 3) := by decide +kernel
theorem zd_R_aspect_36 : decode zb_R_aspect 36 = .ok (.iconst (-1), 1) := by decide +kernel
theorem zd_R_aspect_37 : decode zb_R_aspect 37 = .ok (.ireturn, 1) := by decide +kernel
theorem zd_R_aspect_38 : decode zb_R_aspect 38 = .ok (.aload_n 0, 1) := by decide +kernel
theorem zd_R_aspect_39 : decode zb_R_aspect 39 = .ok (.getfield 26, 3) := by decide +kernel
theorem zd_R_aspect_42 : decode zb_R_aspect 42 = .ok (.aload_n 0, 1) := by decide +kernel
theorem zd_R_aspect_43 : decode zb_R_aspect 43 = .ok (.getfield 79, 3) := by decide +kernel
theorem zd_R_aspect_46 : decode zb_R_aspect 46 = .ok (.iload_n 1, 1) := by decide +kernel
theorem zd_R_aspect_47 : decode zb_R_aspect 47 = .ok (.iastore, 1) := by decide +kernel
theorem zd_R_aspect_48 : decode zb_R_aspect 48 = .ok (.aload_n 0, 1) := by decide +kernel
theorem zd_R_aspect_49 : decode zb_R_aspect 49 = .ok (.getfield 29, 3) := by decide +kernel
theorem zd_R_aspect_52 : decode zb_R_aspect 52 = .ok (.aload_n 0, 1) := by decide +kernel
theorem zd_R_aspect_53 : decode zb_R_aspect 53 = .ok (.getfield 79, 3) := by decide +kernel
theorem zd_R_aspect_56 : decode zb_R_aspect 56 = .ok (.iload_n 2, 1) := by decide +kernel
theorem zd_R_aspect_57 : decode zb_R_aspect 57 = .ok (.bipush 7, 2) := by decide +kernel
theorem zd_R_aspect_59 : decode zb_R_aspect 59 = .ok (.iand, 1) := by decide +kernel
theorem zd_R_aspect_60 : decode zb_R_aspect 60 = .ok (.iastore, 1) := by decide +kernel
theorem zd_R_aspect_61 : decode zb_R_aspect 61 = .ok (.aload_n 0, 1) := by decide +kernel
theorem zd_R_aspect_62 : decode zb_R_aspect 62 = .ok (.getfield 32, 3) := by decide +kernel
theorem zd_R_aspect_65 : decode zb_R_aspect 65 = .ok (.aload_n 0, 1) := by decide +kernel
theorem zd_R_aspect_66 : decode zb_R_aspect 66 = .ok (.getfield 79, 3) := by decide +kernel
theorem zd_R_aspect_69 : decode zb_R_aspect 69 = .ok (.iload_n 3, 1) := by decide +kernel
theorem zd_R_aspect_70 : decode zb_R_aspect 70 = .ok (.sipush 255, 3) := by decide +kernel
theorem zd_R_aspect_73 : decode zb_R_aspect 73 = .ok (.iand, 1) := by decide +kernel
theorem zd_R_aspect_74 : decode zb_R_aspect 74 = .ok (.iastore, 1) := by decide +kernel
theorem zd_R_aspect_75 : decode zb_R_aspect 75 = .ok (.aload_n 0, 1) := by decide +kernel
theorem zd_R_aspect_76 : decode zb_R_aspect 76 = .ok (.getfield 35, 3) := by decide +kernel
theorem zd_R_aspect_79 : decode zb_R_aspect 79 = .ok (.aload_n 0, 1) := by decide +kernel
theorem zd_R_aspect_80 : decode zb_R_aspect 80 = .ok (.getfield 79, 3) := by decide +kernel
theorem zd_R_aspect_83 : decode zb_R_aspect 83 = .ok (.iload 4, 2) := by decide +kernel
theorem zd_R_aspect_85 : decode zb_R_aspect 85 = .ok (.sipush 255, 3) := by decide +kernel
theorem zd_R_aspect_88 : decode zb_R_aspect 88 = .ok (.iand, 1) := by decide +kernel
theorem zd_R_aspect_89 : decode zb_R_aspect 89 = .ok (.iastore, 1) := by decide +kernel
theorem zd_R_aspect_90 : decode zb_R_aspect 90 = .ok (.aload_n 0, 1) := by decide +kernel
theorem zd_R_aspect_91 : decode zb_R_aspect 91 = .ok (.getfield 38, 3) := by decide +kernel
theorem zd_R_aspect_94 : decode zb_R_aspect 94 = .ok (.aload_n 0, 1) := by decide +kernel
theorem zd_R_aspect_95 : decode zb_R_aspect 95 = .ok (.getfield 79, 3) := by decide +kernel
theorem zd_R_aspect_98 : decode zb_R_aspect 98 = .ok (.iload 5, 2) := by decide +kernel
theorem zd_R_aspect_100 : decode zb_R_aspect 100 = .ok (.iastore, 1) := by decide +kernel
theorem zd_R_aspect_101 : decode zb_R_aspect 101 = .ok (.aload_n 0, 1) := by decide +kernel
theorem zd_R_aspect_102 : decode zb_R_aspect 102 = .ok (.dup, 1) := by decide +kernel
theorem zd_R_aspect_103 : decode zb_R_aspect 103 = .ok (.getfield 79, 3) := by decide +kernel
theorem zd_R_aspect_106 : decode zb_R_aspect 106 = .ok (.iconst 1, 1) := by decide +kernel
theorem zd_R_aspect_107 : decode zb_R_aspect 107 = .ok (.iadd, 1) := by decide +kernel
theorem zd_R_aspect_108 : decode zb_R_aspect 108 = .ok (.putfield 79, 3) := by decide +kernel
theorem zd_R_aspect_111 : decode zb_R_aspect 111 = .ok (.aload_n 0, 1) := by decide +kernel
theorem zd_R_aspect_112 : decode zb_R_aspect 112 = .ok (.getfield 79, 3) := by decide +kernel
theorem zd_R_aspect_115 : decode zb_R_aspect 115 = .ok (.iconst 1, 1) := by decide +kernel
theorem zd_R_aspect_116 : decode zb_R_aspect 116 = .ok (.isub, 1) := by decide +kernel
theorem zd_R_aspect_117 : decode zb_R_aspect 117 = .ok (.ireturn, 1) := by decide +kernel
theorem zd_R_need_0 : decode zb_R_need 0 = .ok (.aload_n 0, 1) := by decide +kernel
theorem zd_R_need_1 : decode zb_R_need 1 = .ok (.iconst 0, 1) := by decide +kernel
theorem zd_R_need_2 : decode zb_R_need 2 = .ok (.putfield 72, 3) := by decide +kernel
theorem zd_R_need_5 : decode zb_R_need 5 = .ok (.aload_n 0, 1) := by decide +kernel
theorem zd_R_need_6 : decode zb_R_need 6 = .ok (.iload_n 1, 1) := by decide +kernel
theorem zd_R_need_7 : decode zb_R_need 7 = .ok (.invokevirtual 107, 3) := by decide +kernel
theorem zd_R_need_10 : decode zb_R_need 10 = .ok (.ifCond .eq 30, 3) := by decide +kernel
theorem zd_R_need_13 : decode zb_R_need 13 = .ok (.aload_n 0, 1) := by decide +kernel
theorem zd_R_need_14 : decode zb_R_need 14 = .ok (.iload_n 2, 1) := by decide +kernel
theorem zd_R_need_15 : decode zb_R_need 15 = .ok (.invokevirtual 107, 3) := by decide +kernel
theorem zd_R_need_18 : decode zb_R_need 18 = .ok (.ifCond .eq 22, 3) := by decide +kernel
theorem zd_R_need_21 : decode zb_R_need 21 = .ok (.aload_n 0, 1) := by decide +kernel
theorem zd_R_need_22 : decode zb_R_need 22 = .ok (.iload_n 1, 1) := by decide +kernel
theorem zd_R_need_23 : decode zb_R_need 23 = .ok (.iload_n 2, 1) := by decide +kernel
theorem zd_R_need_24 : decode zb_R_need 24 = .ok (.invokevirtual 99, 3) := by decide +kernel
theorem zd_R_need_27 : decode zb_R_need 27 = .ok (.ifCond .ne 13, 3) := by decide +kernel
theorem zd_R_need_30 : decode zb_R_need 30 = .ok (.aload_n 0, 1) := by decide +kernel
theorem zd_R_need_31 : decode zb_R_need 31 = .ok (.getfield 41, 3) := by decide +kernel
theorem zd_R_need_34 : decode zb_R_need 34 = .ok (.iload_n 1, 1) := by decide +kernel
theorem zd_R_need_35 : decode zb_R_need 35 = .ok (.iaload, 1) := by decide +kernel
theorem zd_R_need_36 : decode zb_R_need 36 = .ok (.iconst 3, 1) := by decide +kernel
theorem zd_R_need_37 : decode zb_R_need 37 = .ok (.if_icmp .ne 5, 3) := by decide +kernel
theorem zd_R_need_40 : decode zb_R_need 40 = .ok (.iconst (-1), 1) := by decide +kernel
theorem zd_R_need_41 : decode zb_R_need 41 = .ok (.ireturn, 1) := by decide +kernel
theorem zd_R_need_42 : decode zb_R_need 42 = .ok (.aload_n 0, 1) := by decide +kernel
theorem zd_R_need_43 : decode zb_R_need 43 = .ok (.iload_n 1, 1) := by decide +kernel
theorem zd_R_need_44 : decode zb_R_need 44 = .ok (.invokevirtual 110, 3) := by decide +kernel
theorem zd_R_need_47 : decode zb_R_need 47 = .ok (.istore_n 3, 1) := by decide +kernel
theorem zd_R_need_48 : decode zb_R_need 48 = .ok (.iload_n 3, 1) := by decide +kernel
theorem zd_R_need_49 : decode zb_R_need 49 = .ok (.iload_n 2, 1) := by decide +kernel
theorem zd_R_need_50 : decode zb_R_need 50 = .ok (.ishr, 1) := by decide +kernel
theorem zd_R_need_51 : decode zb_R_need 51 = .ok (.iconst 1, 1) := by decide +kernel
theorem zd_R_need_52 : decode zb_R_need 52 = .ok (.iand, 1) := by decide +kernel
theorem zd_R_need_53 : decode zb_R_need 53 = .ok (.iconst 1, 1) := by decide +kernel
theorem zd_R_need_54 : decode zb_R_need 54 = .ok (.if_icmp .ne 6, 3) := by decide +kernel
theorem zd_R_need_57 : decode zb_R_need 57 = .ok (.bipush (-2), 2) := by decide +kernel
theorem zd_R_need_59 : decode zb_R_need 59 = .ok (.ireturn, 1) := by decide +kernel
theorem zd_R_need_60 : decode zb_R_need 60 = .ok (.aload_n 0, 1) := by decide +kernel
theorem zd_R_need_61 : decode zb_R_need 61 = .ok (.getfield 44, 3) := by decide +kernel
theorem zd_R_need_64 : decode zb_R_need 64 = .ok (.iconst 3, 1) := by decide +kernel
theorem zd_R_need_65 : decode zb_R_need 65 = .ok (.iload_n 1, 1) := by decide +kernel
theorem zd_R_need_66 : decode zb_R_need 66 = .ok (.imul, 1) := by decide +kernel
theorem zd_R_need_67 : decode zb_R_need 67 = .ok (.aload_n 0, 1) := by decide +kernel
theorem zd_R_need_68 : decode zb_R_need 68 = .ok (.getfield 41, 3) := by decide +kernel
theorem zd_R_need_71 : decode zb_R_need 71 = .ok (.iload_n 1, 1) := by decide +kernel
theorem zd_R_need_72 : decode zb_R_need 72 = .ok (.iaload, 1) := by decide +kernel
theorem zd_R_need_73 : decode zb_R_need 73 = .ok (.iadd, 1) := by decide +kernel
theorem zd_R_need_74 : decode zb_R_need 74 = .ok (.iload_n 2, 1) := by decide +kernel
theorem zd_R_need_75 : decode zb_R_need 75 = .ok (.iastore, 1) := by decide +kernel
theorem zd_R_need_76 : decode zb_R_need 76 = .ok (.aload_n 0, 1) := by decide +kernel
theorem zd_R_need_77 : decode zb_R_need 77 = .ok (.getfield 41, 3) := by decide +kernel
theorem zd_R_need_80 : decode zb_R_need 80 = .ok (.iload_n 1, 1) := by decide +kernel
theorem zd_R_need_81 : decode zb_R_need 81 = .ok (.dup2, 1) := by decide +kernel
theorem zd_R_need_82 : decode zb_R_need 82 = .ok (.iaload, 1) := by decide +kernel
theorem zd_R_need_83 : decode zb_R_need 83 = .ok (.iconst 1, 1) := by decide +kernel
theorem zd_R_need_84 : decode zb_R_need 84 = .ok (.iadd, 1) := by decide +kernel
theorem zd_R_need_85 : decode zb_R_need 85 = .ok (.iastore, 1) := by decide +kernel
theorem zd_R_need_86 : decode zb_R_need 86 = .ok (.iconst 0, 1) := by decide +kernel
theorem zd_R_need_87 : decode zb_R_need 87 = .ok (.istore 4, 2) := by decide +kernel
theorem zd_R_need_89 : decode zb_R_need 89 = .ok (.iload 4, 2) := by decide +kernel
theorem zd_R_need_91 : decode zb_R_need 91 = .ok (.aload_n 0, 1) := by decide +kernel
theorem zd_R_need_92 : decode zb_R_need 92 = .ok (.getfield 79, 3) := by decide +kernel
theorem zd_R_need_95 : decode zb_R_need 95 = .ok (.if_icmp .ge 25, 3) := by decide +kernel
theorem zd_R_need_98 : decode zb_R_need 98 = .ok (.iload_n 3, 1) := by decide +kernel
theorem zd_R_need_99 : decode zb_R_need 99 = .ok (.iload 4, 2) := by decide +kernel
theorem zd_R_need_101 : decode zb_R_need 101 = .ok (.ishr, 1) := by decide +kernel
theorem zd_R_need_102 : decode zb_R_need 102 = .ok (.iconst 1, 1) := by decide +kernel
theorem zd_R_need_103 : decode zb_R_need 103 = .ok (.iand, 1) := by decide +kernel
theorem zd_R_need_104 : decode zb_R_need 104 = .ok (.iconst 1, 1) := by decide +kernel
theorem zd_R_need_105 : decode zb_R_need 105 = .ok (.if_icmp .ne 9, 3) := by decide +kernel
theorem zd_R_need_108 : decode zb_R_need 108 = .ok (.aload_n 0, 1) := by decide +kernel
theorem zd_R_need_109 : decode zb_R_need 109 = .ok (.iload 4, 2) := by decide +kernel
theorem zd_R_need_111 : decode zb_R_need 111 = .ok (.invokevirtual 114, 3) := by decide +kernel
theorem zd_R_need_114 : decode zb_R_need 114 = .ok (.iinc 4 1, 3) := by decide +kernel
theorem zd_R_need_117 : decode zb_R_need 117 = .ok (.goto (-28), 3) := by decide +kernel
theorem zd_R_need_120 : decode zb_R_need 120 = .ok (.iconst 1, 1) := by decide +kernel
theorem zd_R_need_121 : decode zb_R_need 121 = .ok (.ireturn, 1) := by decide +kernel
theorem zd_R_isAspect_0 : decode zb_R_isAspect 0 = .ok (.iload_n 1, 1) := by decide +kernel
theorem zd_R_isAspect_1 : decode zb_R_isAspect 1 = .ok (.ifCond .lt 15, 3) := by decide +kernel
theorem zd_R_isAspect_4 : decode zb_R_isAspect 4 = .ok (.iload_n 1, 1) := by decide +kernel
theorem zd_R_isAspect_5 : decode zb_R_isAspect 5 = .ok (.aload_n 0, 1) := by decide +kernel
theorem zd_R_isAspect_6 : decode zb_R_isAspect 6 = .ok (.getfield 79, 3) := by decide +kernel
theorem zd_R_isAspect_9 : decode zb_R_isAspect 9 = .ok (.if_icmp .ge 7, 3) := by decide +kernel
theorem zd_R_isAspect_12 : decode zb_R_isAspect 12 = .ok (.iconst 1, 1) := by decide +kernel
theorem zd_R_isAspect_13 : decode zb_R_isAspect 13 = .ok (.goto 4, 3) := by decide +kernel
theorem zd_R_isAspect_16 : decode zb_R_isAspect 16 = .ok (.iconst 0, 1) := by decide +kernel
theorem zd_R_isAspect_17 : decode zb_R_isAspect 17 = .ok (.ireturn, 1) := by decide +kernel
theorem zd_R_hasNeed_0 : decode zb_R_hasNeed 0 = .ok (.iconst 0, 1) := by decide +kernel
theorem zd_R_hasNeed_1 : decode zb_R_hasNeed 1 = .ok (.istore_n 3, 1) := by decide +kernel
theorem zd_R_hasNeed_2 : decode zb_R_hasNeed 2 = .ok (.iconst 0, 1) := by decide +kernel
theorem zd_R_hasNeed_3 : decode zb_R_hasNeed 3 = .ok (.istore 4, 2) := by decide +kernel
theorem zd_R_hasNeed_5 : decode zb_R_hasNeed 5 = .ok (.iload 4, 2) := by decide +kernel
theorem zd_R_hasNeed_7 : decode zb_R_hasNeed 7 = .ok (.aload_n 0, 1) := by decide +kernel
theorem zd_R_hasNeed_8 : decode zb_R_hasNeed 8 = .ok (.getfield 41, 3) := by decide +kernel
theorem zd_R_hasNeed_11 : decode zb_R_hasNeed 11 = .ok (.iload_n 1, 1) := by decide +kernel
theorem zd_R_hasNeed_12 : decode zb_R_hasNeed 12 = .ok (.iaload, 1) := by decide +kernel
theorem zd_R_hasNeed_13 : decode zb_R_hasNeed 13 = .ok (.if_icmp .ge 34, 3) := by decide +kernel
theorem zd_R_hasNeed_16 : decode zb_R_hasNeed 16 = .ok (.iload_n 3, 1) := by decide +kernel
theorem zd_R_hasNeed_17 : decode zb_R_hasNeed 17 = .ok (.ifCond .ne 18, 3) := by decide +kernel
theorem zd_R_hasNeed_20 : decode zb_R_hasNeed 20 = .ok (.aload_n 0, 1) := by decide +kernel
theorem zd_R_hasNeed_21 : decode zb_R_hasNeed 21 = .ok (.getfield 44, 3) := by decide +kernel
theorem zd_R_hasNeed_24 : decode zb_R_hasNeed 24 = .ok (.iconst 3, 1) := by decide +kernel
theorem zd_R_hasNeed_25 : decode zb_R_hasNeed 25 = .ok (.iload_n 1, 1) := by decide +kernel
theorem zd_R_hasNeed_26 : decode zb_R_hasNeed 26 = .ok (.imul, 1) := by decide +kernel
theorem zd_R_hasNeed_27 : decode zb_R_hasNeed 27 = .ok (.iload 4, 2) := by decide +kernel
theorem zd_R_hasNeed_29 : decode zb_R_hasNeed 29 = .ok (.iadd, 1) := by decide +kernel
theorem zd_R_hasNeed_30 : decode zb_R_hasNeed 30 = .ok (.iaload, 1) := by decide +kernel
theorem zd_R_hasNeed_31 : decode zb_R_hasNeed 31 = .ok (.iload_n 2, 1) := by decide +kernel
theorem zd_R_hasNeed_32 : decode zb_R_hasNeed 32 = .ok (.if_icmp .ne 7, 3) := by decide +kernel
theorem zd_R_hasNeed_35 : decode zb_R_hasNeed 35 = .ok (.iconst 1, 1) := by decide +kernel
theorem zd_R_hasNeed_36 : decode zb_R_hasNeed 36 = .ok (.goto 4, 3) := by decide +kernel
theorem zd_R_hasNeed_39 : decode zb_R_hasNeed 39 = .ok (.iconst 0, 1) := by decide +kernel
theorem zd_R_hasNeed_40 : decode zb_R_hasNeed 40 = .ok (.istore_n 3, 1) := by decide +kernel
theorem zd_R_hasNeed_41 : decode zb_R_hasNeed 41 = .ok (.iinc 4 1, 3) := by decide +kernel
theorem zd_R_hasNeed_44 : decode zb_R_hasNeed 44 = .ok (.goto (-39), 3) := by decide +kernel
theorem zd_R_hasNeed_47 : decode zb_R_hasNeed 47 = .ok (.iload_n 3, 1) := by decide +kernel
theorem zd_R_hasNeed_48 : decode zb_R_hasNeed 48 = .ok (.ireturn, 1) := by decide +kernel
theorem zd_R_neederBits_0 : decode zb_R_neederBits 0 = .ok (.iconst 1, 1) := by decide +kernel
theorem zd_R_neederBits_1 : decode zb_R_neederBits 1 = .ok (.iload_n 1, 1) := by decide +kernel
theorem zd_R_neederBits_2 : decode zb_R_neederBits 2 = .ok (.ishl, 1) := by decide +kernel
theorem zd_R_neederBits_3 : decode zb_R_neederBits 3 = .ok (.istore_n 2, 1) := by decide +kernel
theorem zd_R_neederBits_4 : decode zb_R_neederBits 4 = .ok (.iconst 0, 1) := by decide +kernel
theorem zd_R_neederBits_5 : decode zb_R_neederBits 5 = .ok (.istore_n 3, 1) := by decide +kernel
theorem zd_R_neederBits_6 : decode zb_R_neederBits 6 = .ok (.iload_n 3, 1) := by decide +kernel
theorem zd_R_neederBits_7 : decode zb_R_neederBits 7 = .ok (.bipush 8, 2) := by decide +kernel
theorem zd_R_neederBits_9 : decode zb_R_neederBits 9 = .ok (.if_icmp .ge 77, 3) := by decide +kernel
theorem zd_R_neederBits_12 : decode zb_R_neederBits 12 = .ok (.iconst 0, 1) := by decide +kernel
theorem zd_R_neederBits_13 : decode zb_R_neederBits 13 = .ok (.istore 4, 2) := by decide +kernel
theorem zd_R_neederBits_15 : decode zb_R_neederBits 15 = .ok (.iload 4, 2) := by decide +kernel
theorem zd_R_neederBits_17 : decode zb_R_neederBits 17 = .ok (.aload_n 0, 1) := by decide +kernel
theorem zd_R_neederBits_18 : decode zb_R_neederBits 18 = .ok (.getfield 79, 3) := by decide +kernel
theorem zd_R_neederBits_21 : decode zb_R_neederBits 21 = .ok (.if_icmp .ge 59, 3) := by decide +kernel
theorem zd_R_neederBits_24 : decode zb_R_neederBits 24 = .ok (.iconst 0, 1) := by decide +kernel
theorem zd_R_neederBits_25 : decode zb_R_neederBits 25 = .ok (.istore 5, 2) := by decide +kernel
theorem zd_R_neederBits_27 : decode zb_R_neederBits 27 = .ok (.iload 5, 2) := by decide +kernel
theorem zd_R_neederBits_29 : decode zb_R_neederBits 29 = .ok (.aload_n 0, 1) := by decide +kernel
theorem zd_R_neederBits_30 : decode zb_R_neederBits 30 = .ok (.getfield 79, 3) := by decide +kernel
theorem zd_R_neederBits_33 : decode zb_R_neederBits 33 = .ok (.if_icmp .ge 41, 3) := by decide +kernel
theorem zd_R_neederBits_36 : decode zb_R_neederBits 36 = .ok (.iload_n 2, 1) := by decide +kernel
theorem zd_R_neederBits_37 : decode zb_R_neederBits 37 = .ok (.aload_n 0, 1) := by decide +kernel
theorem zd_R_neederBits_38 : decode zb_R_neederBits 38 = .ok (.iload 4, 2) := by decide +kernel
theorem zd_R_neederBits_40 : decode zb_R_neederBits 40 = .ok (.iload 5, 2) := by decide +kernel
theorem zd_R_neederBits_42 : decode zb_R_neederBits 42 = .ok (.invokevirtual 99, 3) := by decide +kernel
theorem zd_R_neederBits_45 : decode zb_R_neederBits 45 = .ok (.ifCond .eq 20, 3) := by decide +kernel
theorem zd_R_neederBits_48 : decode zb_R_neederBits 48 = .ok (.iload_n 2, 1) := by decide +kernel
theorem zd_R_neederBits_49 : decode zb_R_neederBits 49 = .ok (.iload 5, 2) := by decide +kernel
theorem zd_R_neederBits_51 : decode zb_R_neederBits 51 = .ok (.ishr, 1) := by decide +kernel
theorem zd_R_neederBits_52 : decode zb_R_neederBits 52 = .ok (.iconst 1, 1) := by decide +kernel
theorem zd_R_neederBits_53 : decode zb_R_neederBits 53 = .ok (.iand, 1) := by decide +kernel
theorem zd_R_neederBits_54 : decode zb_R_neederBits 54 = .ok (.iconst 1, 1) := by decide +kernel
theorem zd_R_neederBits_55 : decode zb_R_neederBits 55 = .ok (.if_icmp .ne 10, 3) := by decide +kernel
theorem zd_R_neederBits_58 : decode zb_R_neederBits 58 = .ok (.iconst 1, 1) := by decide +kernel
theorem zd_R_neederBits_59 : decode zb_R_neederBits 59 = .ok (.iload 4, 2) := by decide +kernel
theorem zd_R_neederBits_61 : decode zb_R_neederBits 61 = .ok (.ishl, 1) := by decide +kernel
theorem zd_R_neederBits_62 : decode zb_R_neederBits 62 = .ok (.goto 4, 3) := by decide +kernel
theorem zd_R_neederBits_65 : decode zb_R_neederBits 65 = .ok (.iconst 0, 1) := by decide +kernel
theorem zd_R_neederBits_66 : decode zb_R_neederBits 66 = .ok (.ior, 1) := by decide +kernel
theorem zd_R_neederBits_67 : decode zb_R_neederBits 67 = .ok (.istore_n 2, 1) := by decide +kernel
theorem zd_R_neederBits_68 : decode zb_R_neederBits 68 = .ok (.iinc 5 1, 3) := by decide +kernel
theorem zd_R_neederBits_71 : decode zb_R_neederBits 71 = .ok (.goto (-44), 3) := by decide +kernel
theorem zd_R_neederBits_74 : decode zb_R_neederBits 74 = .ok (.iinc 4 1, 3) := by decide +kernel
theorem zd_R_neederBits_77 : decode zb_R_neederBits 77 = .ok (.goto (-62), 3) := by decide +kernel
theorem zd_R_neederBits_80 : decode zb_R_neederBits 80 = .ok (.iinc 3 1, 3) := by decide +kernel
theorem zd_R_neederBits_83 : decode zb_R_neederBits 83 = .ok (.goto (-77), 3) := by decide +kernel
theorem zd_R_neederBits_86 : decode zb_R_neederBits 86 = .ok (.iload_n 2, 1) := by decide +kernel
theorem zd_R_neederBits_87 : decode zb_R_neederBits 87 = .ok (.ireturn, 1) := by decide +kernel
theorem zd_R_forgetAspect_0 : decode zb_R_forgetAspect 0 = .ok (.iconst 0, 1) := by decide +kernel
theorem zd_R_forgetAspect_1 : decode zb_R_forgetAspect 1 = .ok (.istore_n 2, 1) := by decide +kernel
theorem zd_R_forgetAspect_2 : decode zb_R_forgetAspect 2 = .ok (.iload_n 2, 1) := by decide +kernel
theorem zd_R_forgetAspect_3 : decode zb_R_forgetAspect 3 = .ok (.aload_n 0, 1) := by decide +kernel
theorem zd_R_forgetAspect_4 : decode zb_R_forgetAspect 4 = .ok (.getfield 76, 3) := by decide +kernel
theorem zd_R_forgetAspect_7 : decode zb_R_forgetAspect 7 = .ok (.if_icmp .ge 89, 3) := by decide +kernel
theorem zd_R_forgetAspect_10 : decode zb_R_forgetAspect 10 = .ok (.iconst 0, 1) := by decide +kernel
theorem zd_R_forgetAspect_11 : decode zb_R_forgetAspect 11 = .ok (.istore_n 3, 1) := by decide +kernel
theorem zd_R_forgetAspect_12 : decode zb_R_forgetAspect 12 = .ok (.iload_n 3, 1) := by decide +kernel
theorem zd_R_forgetAspect_13 : decode zb_R_forgetAspect 13 = .ok (.bipush 16, 2) := by decide +kernel
theorem zd_R_forgetAspect_15 : decode zb_R_forgetAspect 15 = .ok (.if_icmp .ge 21, 3) := by decide +kernel
theorem zd_R_forgetAspect_18 : decode zb_R_forgetAspect 18 = .ok (.aload_n 0, 1) := by decide +kernel
theorem zd_R_forgetAspect_19 : decode zb_R_forgetAspect 19 = .ok (.getfield 47, 3) := by decide +kernel
theorem zd_R_forgetAspect_22 : decode zb_R_forgetAspect 22 = .ok (.iload_n 2, 1) := by decide +kernel
theorem zd_R_forgetAspect_23 : decode zb_R_forgetAspect 23 = .ok (.iload_n 1, 1) := by decide +kernel
theorem zd_R_forgetAspect_24 : decode zb_R_forgetAspect 24 = .ok (.iload_n 3, 1) := by decide +kernel
theorem zd_R_forgetAspect_25 : decode zb_R_forgetAspect 25 = .ok (.invokestatic 103, 3) := by decide +kernel
theorem zd_R_forgetAspect_28 : decode zb_R_forgetAspect 28 = .ok (.iconst 0, 1) := by decide +kernel
theorem zd_R_forgetAspect_29 : decode zb_R_forgetAspect 29 = .ok (.iastore, 1) := by decide +kernel
theorem zd_R_forgetAspect_30 : decode zb_R_forgetAspect 30 = .ok (.iinc 3 1, 3) := by decide +kernel
theorem zd_R_forgetAspect_33 : decode zb_R_forgetAspect 33 = .ok (.goto (-21), 3) := by decide +kernel
theorem zd_R_forgetAspect_36 : decode zb_R_forgetAspect 36 = .ok (.iconst 0, 1) := by decide +kernel
theorem zd_R_forgetAspect_37 : decode zb_R_forgetAspect 37 = .ok (.istore_n 3, 1) := by decide +kernel
theorem zd_R_forgetAspect_38 : decode zb_R_forgetAspect 38 = .ok (.iload_n 3, 1) := by decide +kernel
theorem zd_R_forgetAspect_39 : decode zb_R_forgetAspect 39 = .ok (.bipush 10, 2) := by decide +kernel
theorem zd_R_forgetAspect_41 : decode zb_R_forgetAspect 41 = .ok (.if_icmp .ge 49, 3) := by decide +kernel
theorem zd_R_forgetAspect_44 : decode zb_R_forgetAspect 44 = .ok (.aload_n 0, 1) := by decide +kernel
theorem zd_R_forgetAspect_45 : decode zb_R_forgetAspect 45 = .ok (.getfield 56, 3) := by decide +kernel
theorem zd_R_forgetAspect_48 : decode zb_R_forgetAspect 48 = .ok (.bipush 10, 2) := by decide +kernel
theorem zd_R_forgetAspect_50 : decode zb_R_forgetAspect 50 = .ok (.iload_n 2, 1) := by decide +kernel
theorem zd_R_forgetAspect_51 : decode zb_R_forgetAspect 51 = .ok (.imul, 1) := by decide +kernel
theorem zd_R_forgetAspect_52 : decode zb_R_forgetAspect 52 = .ok (.iload_n 3, 1) := by decide +kernel
theorem zd_R_forgetAspect_53 : decode zb_R_forgetAspect 53 = .ok (.iadd, 1) := by decide +kernel
theorem zd_R_forgetAspect_54 : decode zb_R_forgetAspect 54 = .ok (.iaload, 1) := by decide +kernel
theorem zd_R_forgetAspect_55 : decode zb_R_forgetAspect 55 = .ok (.istore 4, 2) := by decide +kernel
theorem zd_R_forgetAspect_57 : decode zb_R_forgetAspect 57 = .ok (.iload 4, 2) := by decide +kernel
theorem zd_R_forgetAspect_59 : decode zb_R_forgetAspect 59 = .ok (.iconst (-1), 1) := by decide +kernel
theorem zd_R_forgetAspect_60 : decode zb_R_forgetAspect 60 = .ok (.if_icmp .eq 24, 3) := by decide +kernel
theorem zd_R_forgetAspect_63 : decode zb_R_forgetAspect 63 = .ok (.iload 4, 2) := by decide +kernel
theorem zd_R_forgetAspect_65 : decode zb_R_forgetAspect 65 = .ok (.bipush 16, 2) := by decide +kernel
theorem zd_R_forgetAspect_67 : decode zb_R_forgetAspect 67 = .ok (.idiv, 1) := by decide +kernel
theorem zd_R_forgetAspect_68 : decode zb_R_forgetAspect 68 = .ok (.iload_n 1, 1) := by decide +kernel
theorem zd_R_forgetAspect_69 : decode zb_R_forgetAspect 69 = .ok (.if_icmp .ne 15, 3) := by decide +kernel
theorem zd_R_forgetAspect_72 : decode zb_R_forgetAspect 72 = .ok (.aload_n 0, 1) := by decide +kernel
theorem zd_R_forgetAspect_73 : decode zb_R_forgetAspect 73 = .ok (.getfield 56, 3) := by decide +kernel
theorem zd_R_forgetAspect_76 : decode zb_R_forgetAspect 76 = .ok (.bipush 10, 2) := by decide +kernel
theorem zd_R_forgetAspect_78 : decode zb_R_forgetAspect 78 = .ok (.iload_n 2, 1) := by decide +kernel
theorem zd_R_forgetAspect_79 : decode zb_R_forgetAspect 79 = .ok (.imul, 1) := by decide +kernel
theorem zd_R_forgetAspect_80 : decode zb_R_forgetAspect 80 = .ok (.iload_n 3, 1) := by decide +kernel
theorem zd_R_forgetAspect_81 : decode zb_R_forgetAspect 81 = .ok (.iadd, 1) := by decide +kernel
theorem zd_R_forgetAspect_82 : decode zb_R_forgetAspect 82 = .ok (.iconst (-1), 1) := by decide +kernel
theorem zd_R_forgetAspect_83 : decode zb_R_forgetAspect 83 = .ok (.iastore, 1) := by decide +kernel
theorem zd_R_forgetAspect_84 : decode zb_R_forgetAspect 84 = .ok (.iinc 3 1, 3) := by decide +kernel
theorem zd_R_forgetAspect_87 : decode zb_R_forgetAspect 87 = .ok (.goto (-49), 3) := by decide +kernel
theorem zd_R_forgetAspect_90 : decode zb_R_forgetAspect 90 = .ok (.iinc 2 1, 3) := by decide +kernel
theorem zd_R_forgetAspect_93 : decode zb_R_forgetAspect 93 = .ok (.goto (-91), 3) := by decide +kernel
theorem zd_R_forgetAspect_96 : decode zb_R_forgetAspect 96 = .ok (.return_, 1) := by decide +kernel
theorem zd_R_placeOf_0 : decode zb_R_placeOf 0 = .ok (.iload_n 0, 1) := by decide +kernel
theorem zd_R_placeOf_1 : decode zb_R_placeOf 1 = .ok (.bipush 8, 2) := by decide +kernel
theorem zd_R_placeOf_3 : decode zb_R_placeOf 3 = .ok (.imul, 1) := by decide +kernel
theorem zd_R_placeOf_4 : decode zb_R_placeOf 4 = .ok (.iload_n 1, 1) := by decide +kernel
theorem zd_R_placeOf_5 : decode zb_R_placeOf 5 = .ok (.iadd, 1) := by decide +kernel
theorem zd_R_placeOf_6 : decode zb_R_placeOf 6 = .ok (.bipush 16, 2) := by decide +kernel
theorem zd_R_placeOf_8 : decode zb_R_placeOf 8 = .ok (.imul, 1) := by decide +kernel
theorem zd_R_placeOf_9 : decode zb_R_placeOf 9 = .ok (.iload_n 2, 1) := by decide +kernel
theorem zd_R_placeOf_10 : decode zb_R_placeOf 10 = .ok (.iadd, 1) := by decide +kernel
theorem zd_R_placeOf_11 : decode zb_R_placeOf 11 = .ok (.ireturn, 1) := by decide +kernel
theorem zd_R_apply_0 : decode zb_R_apply 0 = .ok (.aload_n 0, 1) := by decide +kernel
theorem zd_R_apply_1 : decode zb_R_apply 1 = .ok (.iconst 0, 1) := by decide +kernel
theorem zd_R_apply_2 : decode zb_R_apply 2 = .ok (.putfield 72, 3) := by decide +kernel
theorem zd_R_apply_5 : decode zb_R_apply 5 = .ok (.aload_n 0, 1) := by decide +kernel
theorem zd_R_apply_6 : decode zb_R_apply 6 = .ok (.iload_n 1, 1) := by decide +kernel
theorem zd_R_apply_7 : decode zb_R_apply 7 = .ok (.invokevirtual 82, 3) := by decide +kernel
theorem zd_R_apply_10 : decode zb_R_apply 10 = .ok (.ifCond .eq 18, 3) := by decide +kernel
theorem zd_R_apply_13 : decode zb_R_apply 13 = .ok (.aload_n 0, 1) := by decide +kernel
theorem zd_R_apply_14 : decode zb_R_apply 14 = .ok (.iload_n 2, 1) := by decide +kernel
theorem zd_R_apply_15 : decode zb_R_apply 15 = .ok (.invokevirtual 107, 3) := by decide +kernel
theorem zd_R_apply_18 : decode zb_R_apply 18 = .ok (.ifCond .eq 10, 3) := by decide +kernel
theorem zd_R_apply_21 : decode zb_R_apply 21 = .ok (.iload_n 3, 1) := by decide +kernel
theorem zd_R_apply_22 : decode zb_R_apply 22 = .ok (.invokestatic 153, 3) := by decide +kernel
theorem zd_R_apply_25 : decode zb_R_apply 25 = .ok (.ifCond .ne 5, 3) := by decide +kernel
theorem zd_R_apply_28 : decode zb_R_apply 28 = .ok (.iconst (-1), 1) := by decide +kernel
theorem zd_R_apply_29 : decode zb_R_apply 29 = .ok (.ireturn, 1) := by decide +kernel
theorem zd_R_apply_30 : decode zb_R_apply 30 = .ok (.aload_n 0, 1) := by decide +kernel
theorem zd_R_apply_31 : decode zb_R_apply 31 = .ok (.getfield 7, 3) := by decide +kernel
theorem zd_R_apply_34 : decode zb_R_apply 34 = .ok (.iload_n 1, 1) := by decide +kernel
theorem zd_R_apply_35 : decode zb_R_apply 35 = .ok (.iaload, 1) := by decide +kernel
theorem zd_R_apply_36 : decode zb_R_apply 36 = .ok (.iload_n 2, 1) := by decide +kernel
theorem zd_R_apply_37 : decode zb_R_apply 37 = .ok (.iload_n 3, 1) := by decide +kernel
theorem zd_R_apply_38 : decode zb_R_apply 38 = .ok (.invokestatic 103, 3) := by decide +kernel
theorem zd_R_apply_41 : decode zb_R_apply 41 = .ok (.istore 4, 2) := by decide +kernel
theorem zd_R_apply_43 : decode zb_R_apply 43 = .ok (.aload_n 0, 1) := by decide +kernel
theorem zd_R_apply_44 : decode zb_R_apply 44 = .ok (.iload_n 3, 1) := by decide +kernel
theorem zd_R_apply_45 : decode zb_R_apply 45 = .ok (.putfield 120, 3) := by decide +kernel
theorem zd_R_apply_48 : decode zb_R_apply 48 = .ok (.aload_n 0, 1) := by decide +kernel
theorem zd_R_apply_49 : decode zb_R_apply 49 = .ok (.iconst 0, 1) := by decide +kernel
theorem zd_R_apply_50 : decode zb_R_apply 50 = .ok (.putfield 145, 3) := by decide +kernel
theorem zd_R_apply_53 : decode zb_R_apply 53 = .ok (.aload_n 0, 1) := by decide +kernel
theorem zd_R_apply_54 : decode zb_R_apply 54 = .ok (.iconst 0, 1) := by decide +kernel
theorem zd_R_apply_55 : decode zb_R_apply 55 = .ok (.putfield 117, 3) := by decide +kernel
theorem zd_R_apply_58 : decode zb_R_apply 58 = .ok (.aload_n 0, 1) := by decide +kernel
theorem zd_R_apply_59 : decode zb_R_apply 59 = .ok (.getfield 47, 3) := by decide +kernel
theorem zd_R_apply_62 : decode zb_R_apply 62 = .ok (.iload 4, 2) := by decide +kernel
theorem zd_R_apply_64 : decode zb_R_apply 64 = .ok (.iaload, 1) := by decide +kernel
theorem zd_R_apply_65 : decode zb_R_apply 65 = .ok (.ifCond .ne 14, 3) := by decide +kernel
theorem zd_R_apply_68 : decode zb_R_apply 68 = .ok (.aload_n 0, 1) := by decide +kernel
theorem zd_R_apply_69 : decode zb_R_apply 69 = .ok (.aload_n 0, 1) := by decide +kernel
theorem zd_R_apply_70 : decode zb_R_apply 70 = .ok (.getfield 7, 3) := by decide +kernel
theorem zd_R_apply_73 : decode zb_R_apply 73 = .ok (.iload_n 1, 1) := by decide +kernel
theorem zd_R_apply_74 : decode zb_R_apply 74 = .ok (.iaload, 1) := by decide +kernel
theorem zd_R_apply_75 : decode zb_R_apply 75 = .ok (.iload_n 2, 1) := by decide +kernel
