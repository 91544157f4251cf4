theorem dX0_init_0 : decode cX0_init 0 = .ok (.aload_n 0, 1) := by decide +kernel
theorem dX0_init_1 : decode cX0_init 1 = .ok (.invokespecial 1, 3) := by decide +kernel
theorem dX0_init_4 : decode cX0_init 4 = .ok (.aload_n 0, 1) := by decide +kernel
theorem dX0_init_5 : decode cX0_init 5 = .ok (.aload_n 1, 1) := by decide +kernel
theorem dX0_init_6 : decode cX0_init 6 = .ok (.putfield 7, 3) := by decide +kernel
theorem dX0_init_9 : decode cX0_init 9 = .ok (.aload_n 0, 1) := by decide +kernel
theorem dX0_init_10 : decode cX0_init 10 = .ok (.aload_n 2, 1) := by decide +kernel
theorem dX0_init_11 : decode cX0_init 11 = .ok (.putfield 13, 3) := by decide +kernel
theorem dX0_init_14 : decode cX0_init 14 = .ok (.aload_n 0, 1) := by decide +kernel
theorem dX0_init_15 : decode cX0_init 15 = .ok (.iload_n 3, 1) := by decide +kernel
theorem dX0_init_16 : decode cX0_init 16 = .ok (.putfield 17, 3) := by decide +kernel
theorem dX0_init_19 : decode cX0_init 19 = .ok (.aload_n 0, 1) := by decide +kernel
theorem dX0_init_20 : decode cX0_init 20 = .ok (.aload 4, 2) := by decide +kernel
theorem dX0_init_22 : decode cX0_init 22 = .ok (.putfield 21, 3) := by decide +kernel
theorem dX0_init_25 : decode cX0_init 25 = .ok (.return_, 1) := by decide +kernel
theorem dX1_init_0 : decode cX1_init 0 = .ok (.aload_n 0, 1) := by decide +kernel
theorem dX1_init_1 : decode cX1_init 1 = .ok (.invokespecial 1, 3) := by decide +kernel
theorem dX1_init_4 : decode cX1_init 4 = .ok (.aload_n 0, 1) := by decide +kernel
theorem dX1_init_5 : decode cX1_init 5 = .ok (.iload_n 1, 1) := by decide +kernel
theorem dX1_init_6 : decode cX1_init 6 = .ok (.putfield 7, 3) := by decide +kernel
theorem dX1_init_9 : decode cX1_init 9 = .ok (.aload_n 0, 1) := by decide +kernel
theorem dX1_init_10 : decode cX1_init 10 = .ok (.iload_n 2, 1) := by decide +kernel
theorem dX1_init_11 : decode cX1_init 11 = .ok (.newarray .int, 2) := by decide +kernel
theorem dX1_init_13 : decode cX1_init 13 = .ok (.putfield 13, 3) := by decide +kernel
theorem dX1_init_16 : decode cX1_init 16 = .ok (.aload_n 0, 1) := by decide +kernel
theorem dX1_init_17 : decode cX1_init 17 = .ok (.aload_n 3, 1) := by decide +kernel
theorem dX1_init_18 : decode cX1_init 18 = .ok (.putfield 17, 3) := by decide +kernel
theorem dX1_init_21 : decode cX1_init 21 = .ok (.aload_n 0, 1) := by decide +kernel
theorem dX1_init_22 : decode cX1_init 22 = .ok (.iload_n 2, 1) := by decide +kernel
theorem dX1_init_23 : decode cX1_init 23 = .ok (.putfield 21, 3) := by decide +kernel
theorem dX1_init_26 : decode cX1_init 26 = .ok (.return_, 1) := by decide +kernel
theorem dX2_init_0 : decode cX2_init 0 = .ok (.aload_n 0, 1) := by decide +kernel
theorem dX2_init_1 : decode cX2_init 1 = .ok (.invokespecial 3, 3) := by decide +kernel
theorem dX2_init_4 : decode cX2_init 4 = .ok (.aload_n 0, 1) := by decide +kernel
theorem dX2_init_5 : decode cX2_init 5 = .ok (.aload_n 1, 1) := by decide +kernel
theorem dX2_init_6 : decode cX2_init 6 = .ok (.putfield 9, 3) := by decide +kernel
theorem dX2_init_9 : decode cX2_init 9 = .ok (.aload_n 0, 1) := by decide +kernel
theorem dX2_init_10 : decode cX2_init 10 = .ok (.iload_n 2, 1) := by decide +kernel
theorem dX2_init_11 : decode cX2_init 11 = .ok (.putfield 15, 3) := by decide +kernel
theorem dX2_init_14 : decode cX2_init 14 = .ok (.aload_n 0, 1) := by decide +kernel
theorem dX2_init_15 : decode cX2_init 15 = .ok (.iload_n 3, 1) := by decide +kernel
theorem dX2_init_16 : decode cX2_init 16 = .ok (.putfield 19, 3) := by decide +kernel
theorem dX2_init_19 : decode cX2_init 19 = .ok (.return_, 1) := by decide +kernel
theorem dX2_callIn_0 : decode cX2_callIn 0 = .ok (.aload_n 1, 1) := by decide +kernel
theorem dX2_callIn_1 : decode cX2_callIn 1 = .ok (.iconst 0, 1) := by decide +kernel
theorem dX2_callIn_2 : decode cX2_callIn 2 = .ok (.putfield 23, 3) := by decide +kernel
theorem dX2_callIn_5 : decode cX2_callIn 5 = .ok (.iload_n 2, 1) := by decide +kernel
theorem dX2_callIn_6 : decode cX2_callIn 6 = .ok (.istore_n 3, 1) := by decide +kernel
theorem dX2_callIn_7 : decode cX2_callIn 7 = .ok (.aload_n 0, 1) := by decide +kernel
theorem dX2_callIn_8 : decode cX2_callIn 8 = .ok (.getfield 9, 3) := by decide +kernel
theorem dX2_callIn_11 : decode cX2_callIn 11 = .ok (.getfield 26, 3) := by decide +kernel
theorem dX2_callIn_14 : decode cX2_callIn 14 = .ok (.iconst 1, 1) := by decide +kernel
theorem dX2_callIn_15 : decode cX2_callIn 15 = .ok (.if_icmp .ne 31, 3) := by decide +kernel
theorem dX2_callIn_18 : decode cX2_callIn 18 = .ok (.aload_n 1, 1) := by decide +kernel
theorem dX2_callIn_19 : decode cX2_callIn 19 = .ok (.iconst 5, 1) := by decide +kernel
theorem dX2_callIn_20 : decode cX2_callIn 20 = .ok (.iconst 2, 1) := by decide +kernel
theorem dX2_callIn_21 : decode cX2_callIn 21 = .ok (.newarray .int, 2) := by decide +kernel
theorem dX2_callIn_23 : decode cX2_callIn 23 = .ok (.dup, 1) := by decide +kernel
theorem dX2_callIn_24 : decode cX2_callIn 24 = .ok (.iconst 0, 1) := by decide +kernel
theorem dX2_callIn_25 : decode cX2_callIn 25 = .ok (.aload_n 0, 1) := by decide +kernel
theorem dX2_callIn_26 : decode cX2_callIn 26 = .ok (.getfield 19, 3) := by decide +kernel
theorem dX2_callIn_29 : decode cX2_callIn 29 = .ok (.ifCond .eq 7, 3) := by decide +kernel
theorem dX2_callIn_32 : decode cX2_callIn 32 = .ok (.iconst 0, 1) := by decide +kernel
theorem dX2_callIn_33 : decode cX2_callIn 33 = .ok (.goto 4, 3) := by decide +kernel
theorem dX2_callIn_36 : decode cX2_callIn 36 = .ok (.iconst 1, 1) := by decide +kernel
theorem dX2_callIn_37 : decode cX2_callIn 37 = .ok (.iastore, 1) := by decide +kernel
theorem dX2_callIn_38 : decode cX2_callIn 38 = .ok (.dup, 1) := by decide +kernel
theorem dX2_callIn_39 : decode cX2_callIn 39 = .ok (.iconst 1, 1) := by decide +kernel
theorem dX2_callIn_40 : decode cX2_callIn 40 = .ok (.iload_n 2, 1) := by decide +kernel
theorem dX2_callIn_41 : decode cX2_callIn 41 = .ok (.iastore, 1) := by decide +kernel
theorem dX2_callIn_42 : decode cX2_callIn 42 = .ok (.invokevirtual 31, 3) := by decide +kernel
theorem dX2_callIn_45 : decode cX2_callIn 45 = .ok (.istore_n 3, 1) := by decide +kernel
theorem dX2_callIn_46 : decode cX2_callIn 46 = .ok (.aload_n 0, 1) := by decide +kernel
theorem dX2_callIn_47 : decode cX2_callIn 47 = .ok (.getfield 15, 3) := by decide +kernel
theorem dX2_callIn_50 : decode cX2_callIn 50 = .ok (.ifCond .lt 31, 3) := by decide +kernel
theorem dX2_callIn_53 : decode cX2_callIn 53 = .ok (.aload_n 0, 1) := by decide +kernel
theorem dX2_callIn_54 : decode cX2_callIn 54 = .ok (.getfield 15, 3) := by decide +kernel
theorem dX2_callIn_57 : decode cX2_callIn 57 = .ok (.aload_n 0, 1) := by decide +kernel
theorem dX2_callIn_58 : decode cX2_callIn 58 = .ok (.getfield 9, 3) := by decide +kernel
theorem dX2_callIn_61 : decode cX2_callIn 61 = .ok (.getfield 35, 3) := by decide +kernel
theorem dX2_callIn_64 : decode cX2_callIn 64 = .ok (.arraylength, 1) := by decide +kernel
theorem dX2_callIn_65 : decode cX2_callIn 65 = .ok (.if_icmp .ge 16, 3) := by decide +kernel
theorem dX2_callIn_68 : decode cX2_callIn 68 = .ok (.aload_n 0, 1) := by decide +kernel
theorem dX2_callIn_69 : decode cX2_callIn 69 = .ok (.getfield 9, 3) := by decide +kernel
theorem dX2_callIn_72 : decode cX2_callIn 72 = .ok (.getfield 35, 3) := by decide +kernel
theorem dX2_callIn_75 : decode cX2_callIn 75 = .ok (.aload_n 0, 1) := by decide +kernel
theorem dX2_callIn_76 : decode cX2_callIn 76 = .ok (.getfield 15, 3) := by decide +kernel
theorem dX2_callIn_79 : decode cX2_callIn 79 = .ok (.iload_n 3, 1) := by decide +kernel
theorem dX2_callIn_80 : decode cX2_callIn 80 = .ok (.iastore, 1) := by decide +kernel
theorem dX2_callIn_81 : decode cX2_callIn 81 = .ok (.aload_n 0, 1) := by decide +kernel
theorem dX2_callIn_82 : decode cX2_callIn 82 = .ok (.getfield 9, 3) := by decide +kernel
theorem dX2_callIn_85 : decode cX2_callIn 85 = .ok (.dup, 1) := by decide +kernel
theorem dX2_callIn_86 : decode cX2_callIn 86 = .ok (.getfield 39, 3) := by decide +kernel
theorem dX2_callIn_89 : decode cX2_callIn 89 = .ok (.iconst 1, 1) := by decide +kernel
theorem dX2_callIn_90 : decode cX2_callIn 90 = .ok (.isub, 1) := by decide +kernel
theorem dX2_callIn_91 : decode cX2_callIn 91 = .ok (.putfield 39, 3) := by decide +kernel
theorem dX2_callIn_94 : decode cX2_callIn 94 = .ok (.aload_n 0, 1) := by decide +kernel
theorem dX2_callIn_95 : decode cX2_callIn 95 = .ok (.getfield 9, 3) := by decide +kernel
theorem dX2_callIn_98 : decode cX2_callIn 98 = .ok (.getfield 39, 3) := by decide +kernel
theorem dX2_callIn_101 : decode cX2_callIn 101 = .ok (.ifCond .ne 11, 3) := by decide +kernel
theorem dX2_callIn_104 : decode cX2_callIn 104 = .ok (.aload_n 1, 1) := by decide +kernel
theorem dX2_callIn_105 : decode cX2_callIn 105 = .ok (.aload_n 0, 1) := by decide +kernel
theorem dX2_callIn_106 : decode cX2_callIn 106 = .ok (.getfield 9, 3) := by decide +kernel
theorem dX2_callIn_109 : decode cX2_callIn 109 = .ok (.invokevirtual 42, 3) := by decide +kernel
theorem dX2_callIn_112 : decode cX2_callIn 112 = .ok (.iconst (-1), 1) := by decide +kernel
theorem dX2_callIn_113 : decode cX2_callIn 113 = .ok (.ireturn, 1) := by decide +kernel
theorem dX3_init_0 : decode cX3_init 0 = .ok (.aload_n 0, 1) := by decide +kernel
theorem dX3_init_1 : decode cX3_init 1 = .ok (.invokespecial 1, 3) := by decide +kernel
theorem dX3_init_4 : decode cX3_init 4 = .ok (.return_, 1) := by decide +kernel
theorem dX4_init_0 : decode cX4_init 0 = .ok (.aload_n 0, 1) := by decide +kernel
theorem dX4_init_1 : decode cX4_init 1 = .ok (.invokespecial 1, 3) := by decide +kernel
theorem dX4_init_4 : decode cX4_init 4 = .ok (.aload_n 0, 1) := by decide +kernel
theorem dX4_init_5 : decode cX4_init 5 = .ok (.aload_n 1, 1) := by decide +kernel
theorem dX4_init_6 : decode cX4_init 6 = .ok (.putfield 7, 3) := by decide +kernel
theorem dX4_init_9 : decode cX4_init 9 = .ok (.aload_n 0, 1) := by decide +kernel
theorem dX4_init_10 : decode cX4_init 10 = .ok (.aload_n 2, 1) := by decide +kernel
theorem dX4_init_11 : decode cX4_init 11 = .ok (.putfield 13, 3) := by decide +kernel
theorem dX4_init_14 : decode cX4_init 14 = .ok (.aload_n 0, 1) := by decide +kernel
theorem dX4_init_15 : decode cX4_init 15 = .ok (.aload_n 3, 1) := by decide +kernel
theorem dX4_init_16 : decode cX4_init 16 = .ok (.putfield 16, 3) := by decide +kernel
theorem dX4_init_19 : decode cX4_init 19 = .ok (.aload_n 0, 1) := by decide +kernel
theorem dX4_init_20 : decode cX4_init 20 = .ok (.aload 4, 2) := by decide +kernel
theorem dX4_init_22 : decode cX4_init 22 = .ok (.putfield 20, 3) := by decide +kernel
theorem dX4_init_25 : decode cX4_init 25 = .ok (.aload_n 0, 1) := by decide +kernel
theorem dX4_init_26 : decode cX4_init 26 = .ok (.aload 5, 2) := by decide +kernel
theorem dX4_init_28 : decode cX4_init 28 = .ok (.putfield 24, 3) := by decide +kernel
theorem dX4_init_31 : decode cX4_init 31 = .ok (.return_, 1) := by decide +kernel
theorem dX4_reaction_0 : decode cX4_reaction 0 = .ok (.new 8, 3) := by decide +kernel
theorem dX4_reaction_3 : decode cX4_reaction 3 = .ok (.dup, 1) := by decide +kernel
theorem dX4_reaction_4 : decode cX4_reaction 4 = .ok (.aload_n 0, 1) := by decide +kernel
theorem dX4_reaction_5 : decode cX4_reaction 5 = .ok (.aload_n 1, 1) := by decide +kernel
theorem dX4_reaction_6 : decode cX4_reaction 6 = .ok (.aload_n 2, 1) := by decide +kernel
theorem dX4_reaction_7 : decode cX4_reaction 7 = .ok (.aconst_null, 1) := by decide +kernel
theorem dX4_reaction_8 : decode cX4_reaction 8 = .ok (.aconst_null, 1) := by decide +kernel
theorem dX4_reaction_9 : decode cX4_reaction 9 = .ok (.invokespecial 28, 3) := by decide +kernel
theorem dX4_reaction_12 : decode cX4_reaction 12 = .ok (.areturn, 1) := by decide +kernel
theorem dX4_resumption_0 : decode cX4_resumption 0 = .ok (.new 8, 3) := by decide +kernel
theorem dX4_resumption_3 : decode cX4_resumption 3 = .ok (.dup, 1) := by decide +kernel
theorem dX4_resumption_4 : decode cX4_resumption 4 = .ok (.aconst_null, 1) := by decide +kernel
theorem dX4_resumption_5 : decode cX4_resumption 5 = .ok (.aconst_null, 1) := by decide +kernel
theorem dX4_resumption_6 : decode cX4_resumption 6 = .ok (.aconst_null, 1) := by decide +kernel
theorem dX4_resumption_7 : decode cX4_resumption 7 = .ok (.aload_n 0, 1) := by decide +kernel
theorem dX4_resumption_8 : decode cX4_resumption 8 = .ok (.aconst_null, 1) := by decide +kernel
theorem dX4_resumption_9 : decode cX4_resumption 9 = .ok (.invokespecial 28, 3) := by decide +kernel
theorem dX4_resumption_12 : decode cX4_resumption 12 = .ok (.areturn, 1) := by decide +kernel
theorem dX4_follow_0 : decode cX4_follow 0 = .ok (.new 8, 3) := by decide +kernel
theorem dX4_follow_3 : decode cX4_follow 3 = .ok (.dup, 1) := by decide +kernel
theorem dX4_follow_4 : decode cX4_follow 4 = .ok (.aconst_null, 1) := by decide +kernel
theorem dX4_follow_5 : decode cX4_follow 5 = .ok (.aconst_null, 1) := by decide +kernel
theorem dX4_follow_6 : decode cX4_follow 6 = .ok (.new 31, 3) := by decide +kernel
theorem dX4_follow_9 : decode cX4_follow 9 = .ok (.dup, 1) := by decide +kernel
theorem dX4_follow_10 : decode cX4_follow 10 = .ok (.aload_n 1, 1) := by decide +kernel
theorem dX4_follow_11 : decode cX4_follow 11 = .ok (.invokespecial 33, 3) := by decide +kernel
theorem dX4_follow_14 : decode cX4_follow 14 = .ok (.aconst_null, 1) := by decide +kernel
theorem dX4_follow_15 : decode cX4_follow 15 = .ok (.aload_n 0, 1) := by decide +kernel
theorem dX4_follow_16 : decode cX4_follow 16 = .ok (.invokespecial 28, 3) := by decide +kernel
theorem dX4_follow_19 : decode cX4_follow 19 = .ok (.areturn, 1) := by decide +kernel
theorem dX4_hear_0 : decode cX4_hear 0 = .ok (.aload_n 0, 1) := by decide +kernel
theorem dX4_hear_1 : decode cX4_hear 1 = .ok (.iload_n 1, 1) := by decide +kernel
theorem dX4_hear_2 : decode cX4_hear 2 = .ok (.putfield 36, 3) := by decide +kernel
theorem dX4_hear_5 : decode cX4_hear 5 = .ok (.aload_n 0, 1) := by decide +kernel
theorem dX4_hear_6 : decode cX4_hear 6 = .ok (.iload_n 2, 1) := by decide +kernel
theorem dX4_hear_7 : decode cX4_hear 7 = .ok (.putfield 40, 3) := by decide +kernel
theorem dX4_hear_10 : decode cX4_hear 10 = .ok (.return_, 1) := by decide +kernel
theorem dX5_init_0 : decode cX5_init 0 = .ok (.aload_n 0, 1) := by decide +kernel
theorem dX5_init_1 : decode cX5_init 1 = .ok (.invokespecial 3, 3) := by decide +kernel
theorem dX5_init_4 : decode cX5_init 4 = .ok (.aload_n 0, 1) := by decide +kernel
theorem dX5_init_5 : decode cX5_init 5 = .ok (.aload_n 1, 1) := by decide +kernel
theorem dX5_init_6 : decode cX5_init 6 = .ok (.putfield 9, 3) := by decide +kernel
theorem dX5_init_9 : decode cX5_init 9 = .ok (.aload_n 0, 1) := by decide +kernel
theorem dX5_init_10 : decode cX5_init 10 = .ok (.iload_n 2, 1) := by decide +kernel
theorem dX5_init_11 : decode cX5_init 11 = .ok (.putfield 15, 3) := by decide +kernel
theorem dX5_init_14 : decode cX5_init 14 = .ok (.return_, 1) := by decide +kernel
theorem dX5_callIn_0 : decode cX5_callIn 0 = .ok (.aload_n 0, 1) := by decide +kernel
theorem dX5_callIn_1 : decode cX5_callIn 1 = .ok (.getfield 9, 3) := by decide +kernel
theorem dX5_callIn_4 : decode cX5_callIn 4 = .ok (.aload_n 1, 1) := by decide +kernel
theorem dX5_callIn_5 : decode cX5_callIn 5 = .ok (.iconst (-1), 1) := by decide +kernel
theorem dX5_callIn_6 : decode cX5_callIn 6 = .ok (.invokevirtual 19, 3) := by decide +kernel
theorem dX5_callIn_9 : decode cX5_callIn 9 = .ok (.istore_n 3, 1) := by decide +kernel
theorem dX5_callIn_10 : decode cX5_callIn 10 = .ok (.aload_n 1, 1) := by decide +kernel
theorem dX5_callIn_11 : decode cX5_callIn 11 = .ok (.getfield 25, 3) := by decide +kernel
theorem dX5_callIn_14 : decode cX5_callIn 14 = .ok (.ifCond .eq 5, 3) := by decide +kernel
theorem dX5_callIn_17 : decode cX5_callIn 17 = .ok (.iload_n 3, 1) := by decide +kernel
theorem dX5_callIn_18 : decode cX5_callIn 18 = .ok (.ireturn, 1) := by decide +kernel
theorem dX5_callIn_19 : decode cX5_callIn 19 = .ok (.aload_n 1, 1) := by decide +kernel
theorem dX5_callIn_20 : decode cX5_callIn 20 = .ok (.iload_n 3, 1) := by decide +kernel
theorem dX5_callIn_21 : decode cX5_callIn 21 = .ok (.invokevirtual 29, 3) := by decide +kernel
theorem dX5_callIn_24 : decode cX5_callIn 24 = .ok (.astore 4, 2) := by decide +kernel
theorem dX5_callIn_26 : decode cX5_callIn 26 = .ok (.aload_n 1, 1) := by decide +kernel
theorem dX5_callIn_27 : decode cX5_callIn 27 = .ok (.aload 4, 2) := by decide +kernel
theorem dX5_callIn_29 : decode cX5_callIn 29 = .ok (.new 20, 3) := by decide +kernel
theorem dX5_callIn_32 : decode cX5_callIn 32 = .ok (.dup, 1) := by decide +kernel
theorem dX5_callIn_33 : decode cX5_callIn 33 = .ok (.iconst (-1), 1) := by decide +kernel
theorem dX5_callIn_34 : decode cX5_callIn 34 = .ok (.aload_n 0, 1) := by decide +kernel
theorem dX5_callIn_35 : decode cX5_callIn 35 = .ok (.getfield 15, 3) := by decide +kernel
theorem dX5_callIn_38 : decode cX5_callIn 38 = .ok (.iload_n 2, 1) := by decide +kernel
theorem dX5_callIn_39 : decode cX5_callIn 39 = .ok (.aconst_null, 1) := by decide +kernel
theorem dX5_callIn_40 : decode cX5_callIn 40 = .ok (.invokespecial 33, 3) := by decide +kernel
theorem dX5_callIn_43 : decode cX5_callIn 43 = .ok (.aconst_null, 1) := by decide +kernel
theorem dX5_callIn_44 : decode cX5_callIn 44 = .ok (.invokevirtual 36, 3) := by decide +kernel
theorem dX5_callIn_47 : decode cX5_callIn 47 = .ok (.ireturn, 1) := by decide +kernel
theorem dX6_init_0 : decode cX6_init 0 = .ok (.aload_n 0, 1) := by decide +kernel
theorem dX6_init_1 : decode cX6_init 1 = .ok (.iload_n 1, 1) := by decide +kernel
theorem dX6_init_2 : decode cX6_init 2 = .ok (.iconst 0, 1) := by decide +kernel
theorem dX6_init_3 : decode cX6_init 3 = .ok (.aconst_null, 1) := by decide +kernel
theorem dX6_init_4 : decode cX6_init 4 = .ok (.invokespecial 3, 3) := by decide +kernel
theorem dX6_init_7 : decode cX6_init 7 = .ok (.aload_n 0, 1) := by decide +kernel
theorem dX6_init_8 : decode cX6_init 8 = .ok (.iconst 0, 1) := by decide +kernel
theorem dX6_init_9 : decode cX6_init 9 = .ok (.putfield 9, 3) := by decide +kernel
theorem dX6_init_12 : decode cX6_init 12 = .ok (.aload_n 0, 1) := by decide +kernel
theorem dX6_init_13 : decode cX6_init 13 = .ok (.iconst (-1), 1) := by decide +kernel
theorem dX6_init_14 : decode cX6_init 14 = .ok (.putfield 15, 3) := by decide +kernel
theorem dX6_init_17 : decode cX6_init 17 = .ok (.return_, 1) := by decide +kernel
theorem dX7_init_0 : decode cX7_init 0 = .ok (.aload_n 0, 1) := by decide +kernel
theorem dX7_init_1 : decode cX7_init 1 = .ok (.invokespecial 1, 3) := by decide +kernel
theorem dX7_init_4 : decode cX7_init 4 = .ok (.aload_n 0, 1) := by decide +kernel
theorem dX7_init_5 : decode cX7_init 5 = .ok (.aload_n 1, 1) := by decide +kernel
theorem dX7_init_6 : decode cX7_init 6 = .ok (.putfield 7, 3) := by decide +kernel
theorem dX7_init_9 : decode cX7_init 9 = .ok (.return_, 1) := by decide +kernel
theorem dX8_init_0 : decode cX8_init 0 = .ok (.aload_n 0, 1) := by decide +kernel
theorem dX8_init_1 : decode cX8_init 1 = .ok (.invokespecial 3, 3) := by decide +kernel
theorem dX8_init_4 : decode cX8_init 4 = .ok (.aload_n 0, 1) := by decide +kernel
theorem dX8_init_5 : decode cX8_init 5 = .ok (.iload_n 1, 1) := by decide +kernel
theorem dX8_init_6 : decode cX8_init 6 = .ok (.putfield 9, 3) := by decide +kernel
theorem dX8_init_9 : decode cX8_init 9 = .ok (.aload_n 0, 1) := by decide +kernel
theorem dX8_init_10 : decode cX8_init 10 = .ok (.iload_n 2, 1) := by decide +kernel
theorem dX8_init_11 : decode cX8_init 11 = .ok (.putfield 15, 3) := by decide +kernel
theorem dX8_init_14 : decode cX8_init 14 = .ok (.aload_n 0, 1) := by decide +kernel
theorem dX8_init_15 : decode cX8_init 15 = .ok (.iload_n 3, 1) := by decide +kernel
theorem dX8_init_16 : decode cX8_init 16 = .ok (.putfield 18, 3) := by decide +kernel
theorem dX8_init_19 : decode cX8_init 19 = .ok (.aload_n 0, 1) := by decide +kernel
theorem dX8_init_20 : decode cX8_init 20 = .ok (.aload 4, 2) := by decide +kernel
theorem dX8_init_22 : decode cX8_init 22 = .ok (.putfield 21, 3) := by decide +kernel
theorem dX8_init_25 : decode cX8_init 25 = .ok (.return_, 1) := by decide +kernel
theorem dX8_resolving_0 : decode cX8_resolving 0 = .ok (.new 10, 3) := by decide +kernel
theorem dX8_resolving_3 : decode cX8_resolving 3 = .ok (.dup, 1) := by decide +kernel
theorem dX8_resolving_4 : decode cX8_resolving 4 = .ok (.iconst (-1), 1) := by decide +kernel
theorem dX8_resolving_5 : decode cX8_resolving 5 = .ok (.iconst 4, 1) := by decide +kernel
theorem dX8_resolving_6 : decode cX8_resolving 6 = .ok (.iconst (-1), 1) := by decide +kernel
theorem dX8_resolving_7 : decode cX8_resolving 7 = .ok (.aload_n 0, 1) := by decide +kernel
theorem dX8_resolving_8 : decode cX8_resolving 8 = .ok (.invokespecial 25, 3) := by decide +kernel
theorem dX8_resolving_11 : decode cX8_resolving 11 = .ok (.areturn, 1) := by decide +kernel
theorem dX8_rejecting_0 : decode cX8_rejecting 0 = .ok (.new 10, 3) := by decide +kernel
theorem dX8_rejecting_3 : decode cX8_rejecting 3 = .ok (.dup, 1) := by decide +kernel
theorem dX8_rejecting_4 : decode cX8_rejecting 4 = .ok (.iconst (-1), 1) := by decide +kernel
theorem dX8_rejecting_5 : decode cX8_rejecting 5 = .ok (.iconst 5, 1) := by decide +kernel
theorem dX8_rejecting_6 : decode cX8_rejecting 6 = .ok (.iconst (-1), 1) := by decide +kernel
theorem dX8_rejecting_7 : decode cX8_rejecting 7 = .ok (.aload_n 0, 1) := by decide +kernel
theorem dX8_rejecting_8 : decode cX8_rejecting 8 = .ok (.invokespecial 25, 3) := by decide +kernel
theorem dX8_rejecting_11 : decode cX8_rejecting 11 = .ok (.areturn, 1) := by decide +kernel
theorem dX8_callIn_0 : decode cX8_callIn 0 = .ok (.aload_n 0, 1) := by decide +kernel
theorem dX8_callIn_1 : decode cX8_callIn 1 = .ok (.getfield 9, 3) := by decide +kernel
theorem dX8_callIn_4 : decode cX8_callIn 4 = .ok (.iconst (-1), 1) := by decide +kernel
theorem dX8_callIn_5 : decode cX8_callIn 5 = .ok (.if_icmp .eq 12, 3) := by decide +kernel
theorem dX8_callIn_8 : decode cX8_callIn 8 = .ok (.aload_n 1, 1) := by decide +kernel
theorem dX8_callIn_9 : decode cX8_callIn 9 = .ok (.aload_n 0, 1) := by decide +kernel
theorem dX8_callIn_10 : decode cX8_callIn 10 = .ok (.getfield 9, 3) := by decide +kernel
theorem dX8_callIn_13 : decode cX8_callIn 13 = .ok (.iload_n 2, 1) := by decide +kernel
theorem dX8_callIn_14 : decode cX8_callIn 14 = .ok (.invokevirtual 28, 3) := by decide +kernel
theorem dX8_callIn_17 : decode cX8_callIn 17 = .ok (.aload_n 1, 1) := by decide +kernel
theorem dX8_callIn_18 : decode cX8_callIn 18 = .ok (.aload_n 0, 1) := by decide +kernel
theorem dX8_callIn_19 : decode cX8_callIn 19 = .ok (.getfield 15, 3) := by decide +kernel
theorem dX8_callIn_22 : decode cX8_callIn 22 = .ok (.iconst 2, 1) := by decide +kernel
theorem dX8_callIn_23 : decode cX8_callIn 23 = .ok (.if_icmp .eq 11, 3) := by decide +kernel
theorem dX8_callIn_26 : decode cX8_callIn 26 = .ok (.aload_n 0, 1) := by decide +kernel
theorem dX8_callIn_27 : decode cX8_callIn 27 = .ok (.getfield 15, 3) := by decide +kernel
theorem dX8_callIn_30 : decode cX8_callIn 30 = .ok (.iconst 3, 1) := by decide +kernel
theorem dX8_callIn_31 : decode cX8_callIn 31 = .ok (.if_icmp .ne 7, 3) := by decide +kernel
theorem dX8_callIn_34 : decode cX8_callIn 34 = .ok (.iconst 1, 1) := by decide +kernel
theorem dX8_callIn_35 : decode cX8_callIn 35 = .ok (.goto 4, 3) := by decide +kernel
theorem dX8_callIn_38 : decode cX8_callIn 38 = .ok (.iconst 0, 1) := by decide +kernel
theorem dX8_callIn_39 : decode cX8_callIn 39 = .ok (.putfield 32, 3) := by decide +kernel
theorem dX8_callIn_42 : decode cX8_callIn 42 = .ok (.aload_n 0, 1) := by decide +kernel
theorem dX8_callIn_43 : decode cX8_callIn 43 = .ok (.getfield 15, 3) := by decide +kernel
theorem dX8_callIn_46 : decode cX8_callIn 46 = .ok (.tableswitch 52 0 4 #[34, 39, 34, 39, 41], 34) := by decide +kernel
theorem dX8_callIn_80 : decode cX8_callIn 80 = .ok (.aload_n 0, 1) := by decide +kernel
theorem dX8_callIn_81 : decode cX8_callIn 81 = .ok (.getfield 18, 3) := by decide +kernel
theorem dX8_callIn_84 : decode cX8_callIn 84 = .ok (.ireturn, 1) := by decide +kernel
theorem dX8_callIn_85 : decode cX8_callIn 85 = .ok (.iload_n 2, 1) := by decide +kernel
theorem dX8_callIn_86 : decode cX8_callIn 86 = .ok (.ireturn, 1) := by decide +kernel
theorem dX8_callIn_87 : decode cX8_callIn 87 = .ok (.aload_n 1, 1) := by decide +kernel
theorem dX8_callIn_88 : decode cX8_callIn 88 = .ok (.aload_n 0, 1) := by decide +kernel
theorem dX8_callIn_89 : decode cX8_callIn 89 = .ok (.getfield 21, 3) := by decide +kernel
theorem dX8_callIn_92 : decode cX8_callIn 92 = .ok (.iload_n 2, 1) := by decide +kernel
theorem dX8_callIn_93 : decode cX8_callIn 93 = .ok (.invokevirtual 36, 3) := by decide +kernel
theorem dX8_callIn_96 : decode cX8_callIn 96 = .ok (.iconst (-1), 1) := by decide +kernel
theorem dX8_callIn_97 : decode cX8_callIn 97 = .ok (.ireturn, 1) := by decide +kernel
theorem dX8_callIn_98 : decode cX8_callIn 98 = .ok (.aload_n 1, 1) := by decide +kernel
theorem dX8_callIn_99 : decode cX8_callIn 99 = .ok (.aload_n 0, 1) := by decide +kernel
theorem dX8_callIn_100 : decode cX8_callIn 100 = .ok (.getfield 21, 3) := by decide +kernel
theorem dX8_callIn_103 : decode cX8_callIn 103 = .ok (.iload_n 2, 1) := by decide +kernel
theorem dX8_callIn_104 : decode cX8_callIn 104 = .ok (.invokevirtual 40, 3) := by decide +kernel
theorem dX8_callIn_107 : decode cX8_callIn 107 = .ok (.iconst (-1), 1) := by decide +kernel
theorem dX8_callIn_108 : decode cX8_callIn 108 = .ok (.ireturn, 1) := by decide +kernel
theorem dX9_init_0 : decode cX9_init 0 = .ok (.aload_n 0, 1) := by decide +kernel
theorem dX9_init_1 : decode cX9_init 1 = .ok (.iload_n 1, 1) := by decide +kernel
theorem dX9_init_2 : decode cX9_init 2 = .ok (.iconst 1, 1) := by decide +kernel
theorem dX9_init_3 : decode cX9_init 3 = .ok (.aconst_null, 1) := by decide +kernel
theorem dX9_init_4 : decode cX9_init 4 = .ok (.invokespecial 3, 3) := by decide +kernel
theorem dX9_init_7 : decode cX9_init 7 = .ok (.aload_n 0, 1) := by decide +kernel
theorem dX9_init_8 : decode cX9_init 8 = .ok (.iload_n 2, 1) := by decide +kernel
theorem dX9_init_9 : decode cX9_init 9 = .ok (.putfield 9, 3) := by decide +kernel
theorem dX9_init_12 : decode cX9_init 12 = .ok (.return_, 1) := by decide +kernel
theorem dX10_init_0 : decode cX10_init 0 = .ok (.aload_n 0, 1) := by decide +kernel
theorem dX10_init_1 : decode cX10_init 1 = .ok (.invokespecial 1, 3) := by decide +kernel
theorem dX10_init_4 : decode cX10_init 4 = .ok (.aload_n 0, 1) := by decide +kernel
theorem dX10_init_5 : decode cX10_init 5 = .ok (.iload_n 1, 1) := by decide +kernel
theorem dX10_init_6 : decode cX10_init 6 = .ok (.putfield 7, 3) := by decide +kernel
theorem dX10_init_9 : decode cX10_init 9 = .ok (.aload_n 0, 1) := by decide +kernel
theorem dX10_init_10 : decode cX10_init 10 = .ok (.iload_n 2, 1) := by decide +kernel
theorem dX10_init_11 : decode cX10_init 11 = .ok (.putfield 13, 3) := by decide +kernel
theorem dX10_init_14 : decode cX10_init 14 = .ok (.aload_n 0, 1) := by decide +kernel
theorem dX10_init_15 : decode cX10_init 15 = .ok (.aload_n 3, 1) := by decide +kernel
theorem dX10_init_16 : decode cX10_init 16 = .ok (.putfield 16, 3) := by decide +kernel
theorem dX10_init_19 : decode cX10_init 19 = .ok (.return_, 1) := by decide +kernel
theorem dX11_init_0 : decode cX11_init 0 = .ok (.aload_n 0, 1) := by decide +kernel
theorem dX11_init_1 : decode cX11_init 1 = .ok (.invokespecial 1, 3) := by decide +kernel
theorem dX11_init_4 : decode cX11_init 4 = .ok (.aload_n 0, 1) := by decide +kernel
theorem dX11_init_5 : decode cX11_init 5 = .ok (.new 7, 3) := by decide +kernel
theorem dX11_init_8 : decode cX11_init 8 = .ok (.dup, 1) := by decide +kernel
theorem dX11_init_9 : decode cX11_init 9 = .ok (.invokespecial 9, 3) := by decide +kernel
theorem dX11_init_12 : decode cX11_init 12 = .ok (.putfield 10, 3) := by decide +kernel
theorem dX11_init_15 : decode cX11_init 15 = .ok (.aload_n 0, 1) := by decide +kernel
theorem dX11_init_16 : decode cX11_init 16 = .ok (.new 7, 3) := by decide +kernel
theorem dX11_init_19 : decode cX11_init 19 = .ok (.dup, 1) := by decide +kernel
theorem dX11_init_20 : decode cX11_init 20 = .ok (.invokespecial 9, 3) := by decide +kernel
theorem dX11_init_23 : decode cX11_init 23 = .ok (.putfield 16, 3) := by decide +kernel
theorem dX11_init_26 : decode cX11_init 26 = .ok (.aload_n 0, 1) := by decide +kernel
theorem dX11_init_27 : decode cX11_init 27 = .ok (.sipush 200, 3) := by decide +kernel
theorem dX11_init_30 : decode cX11_init 30 = .ok (.newarray .int, 2) := by decide +kernel
theorem dX11_init_32 : decode cX11_init 32 = .ok (.putfield 19, 3) := by decide +kernel
theorem dX11_init_35 : decode cX11_init 35 = .ok (.aload_n 0, 1) := by decide +kernel
theorem dX11_init_36 : decode cX11_init 36 = .ok (.bipush 64, 2) := by decide +kernel
theorem dX11_init_38 : decode cX11_init 38 = .ok (.newarray .int, 2) := by decide +kernel
theorem dX11_init_40 : decode cX11_init 40 = .ok (.putfield 23, 3) := by decide +kernel
theorem dX11_init_43 : decode cX11_init 43 = .ok (.return_, 1) := by decide +kernel
theorem dX11_promise_0 : decode cX11_promise 0 = .ok (.aload_n 0, 1) := by decide +kernel
theorem dX11_promise_1 : decode cX11_promise 1 = .ok (.bipush 8, 2) := by decide +kernel
theorem dX11_promise_3 : decode cX11_promise 3 = .ok (.invokevirtual 26, 3) := by decide +kernel
theorem dX11_promise_6 : decode cX11_promise 6 = .ok (.aload_n 0, 1) := by decide +kernel
theorem dX11_promise_7 : decode cX11_promise 7 = .ok (.invokevirtual 30, 3) := by decide +kernel
theorem dX11_promise_10 : decode cX11_promise 10 = .ok (.astore_n 1, 1) := by decide +kernel
theorem dX11_promise_11 : decode cX11_promise 11 = .ok (.aload_n 1, 1) := by decide +kernel
theorem dX11_promise_12 : decode cX11_promise 12 = .ok (.getfield 34, 3) := by decide +kernel
theorem dX11_promise_15 : decode cX11_promise 15 = .ok (.aload_n 1, 1) := by decide +kernel
theorem dX11_promise_16 : decode cX11_promise 16 = .ok (.putfield 40, 3) := by decide +kernel
theorem dX11_promise_19 : decode cX11_promise 19 = .ok (.aload_n 1, 1) := by decide +kernel
theorem dX11_promise_20 : decode cX11_promise 20 = .ok (.getfield 34, 3) := by decide +kernel
theorem dX11_promise_23 : decode cX11_promise 23 = .ok (.getfield 46, 3) := by decide +kernel
theorem dX11_promise_26 : decode cX11_promise 26 = .ok (.ireturn, 1) := by decide +kernel
theorem dX11_handler_0 : decode cX11_handler 0 = .ok (.aload_n 0, 1) := by decide +kernel
theorem dX11_handler_1 : decode cX11_handler 1 = .ok (.iload_n 1, 1) := by decide +kernel
theorem dX11_handler_2 : decode cX11_handler 2 = .ok (.iconst 0, 1) := by decide +kernel
theorem dX11_handler_3 : decode cX11_handler 3 = .ok (.iconst 5, 1) := by decide +kernel
theorem dX11_handler_4 : decode cX11_handler 4 = .ok (.invokevirtual 50, 3) := by decide +kernel
theorem dX11_handler_7 : decode cX11_handler 7 = .ok (.aload_n 0, 1) := by decide +kernel
theorem dX11_handler_8 : decode cX11_handler 8 = .ok (.iload_n 2, 1) := by decide +kernel
theorem dX11_handler_9 : decode cX11_handler 9 = .ok (.invokevirtual 54, 3) := by decide +kernel
theorem dX11_handler_12 : decode cX11_handler 12 = .ok (.iload_n 1, 1) := by decide +kernel
theorem dX11_handler_13 : decode cX11_handler 13 = .ok (.iconst 4, 1) := by decide +kernel
theorem dX11_handler_14 : decode cX11_handler 14 = .ok (.if_icmp .eq 8, 3) := by decide +kernel
theorem dX11_handler_17 : decode cX11_handler 17 = .ok (.iload_n 1, 1) := by decide +kernel
theorem dX11_handler_18 : decode cX11_handler 18 = .ok (.iconst 5, 1) := by decide +kernel
theorem dX11_handler_19 : decode cX11_handler 19 = .ok (.if_icmp .ne 11, 3) := by decide +kernel
theorem dX11_handler_22 : decode cX11_handler 22 = .ok (.aload_n 0, 1) := by decide +kernel
theorem dX11_handler_23 : decode cX11_handler 23 = .ok (.iload_n 2, 1) := by decide +kernel
theorem dX11_handler_24 : decode cX11_handler 24 = .ok (.invokevirtual 57, 3) := by decide +kernel
theorem dX11_handler_27 : decode cX11_handler 27 = .ok (.goto 4, 3) := by decide +kernel
theorem dX11_handler_30 : decode cX11_handler 30 = .ok (.aconst_null, 1) := by decide +kernel
theorem dX11_handler_31 : decode cX11_handler 31 = .ok (.astore_n 3, 1) := by decide +kernel
theorem dX11_handler_32 : decode cX11_handler 32 = .ok (.aload_n 0, 1) := by decide +kernel
theorem dX11_handler_33 : decode cX11_handler 33 = .ok (.getfield 16, 3) := by decide +kernel
theorem dX11_handler_36 : decode cX11_handler 36 = .ok (.invokevirtual 61, 3) := by decide +kernel
theorem dX11_handler_39 : decode cX11_handler 39 = .ok (.sipush 1000, 3) := by decide +kernel
theorem dX11_handler_42 : decode cX11_handler 42 = .ok (.if_icmp .lt 13, 3) := by decide +kernel
theorem dX11_handler_45 : decode cX11_handler 45 = .ok (.new 65, 3) := by decide +kernel
theorem dX11_handler_48 : decode cX11_handler 48 = .ok (.dup, 1) := by decide +kernel
theorem dX11_handler_49 : decode cX11_handler 49 = .ok (.ldc 67, 2) := by decide +kernel
theorem dX11_handler_51 : decode cX11_handler 51 = .ok (.invokespecial 69, 3) := by decide +kernel
theorem dX11_handler_54 : decode cX11_handler 54 = .ok (.athrow, 1) := by decide +kernel
theorem dX11_handler_55 : decode cX11_handler 55 = .ok (.aload_n 0, 1) := by decide +kernel
theorem dX11_handler_56 : decode cX11_handler 56 = .ok (.getfield 16, 3) := by decide +kernel
theorem dX11_handler_59 : decode cX11_handler 59 = .ok (.new 72, 3) := by decide +kernel
theorem dX11_handler_62 : decode cX11_handler 62 = .ok (.dup, 1) := by decide +kernel
theorem dX11_handler_63 : decode cX11_handler 63 = .ok (.aload_n 0, 1) := by decide +kernel
theorem dX11_handler_64 : decode cX11_handler 64 = .ok (.getfield 16, 3) := by decide +kernel
theorem dX11_handler_67 : decode cX11_handler 67 = .ok (.invokevirtual 61, 3) := by decide +kernel
theorem dX11_handler_70 : decode cX11_handler 70 = .ok (.iload_n 1, 1) := by decide +kernel
theorem dX11_handler_71 : decode cX11_handler 71 = .ok (.iload_n 2, 1) := by decide +kernel
theorem dX11_handler_72 : decode cX11_handler 72 = .ok (.aload_n 3, 1) := by decide +kernel
theorem dX11_handler_73 : decode cX11_handler 73 = .ok (.invokespecial 74, 3) := by decide +kernel
theorem dX11_handler_76 : decode cX11_handler 76 = .ok (.invokevirtual 77, 3) := by decide +kernel
theorem dX11_handler_79 : decode cX11_handler 79 = .ok (.pop, 1) := by decide +kernel
theorem dX11_handler_80 : decode cX11_handler 80 = .ok (.aload_n 0, 1) := by decide +kernel
theorem dX11_handler_81 : decode cX11_handler 81 = .ok (.getfield 16, 3) := by decide +kernel
theorem dX11_handler_84 : decode cX11_handler 84 = .ok (.invokevirtual 61, 3) := by decide +kernel
theorem dX11_handler_87 : decode cX11_handler 87 = .ok (.iconst 1, 1) := by decide +kernel
theorem dX11_handler_88 : decode cX11_handler 88 = .ok (.isub, 1) := by decide +kernel
theorem dX11_handler_89 : decode cX11_handler 89 = .ok (.ireturn, 1) := by decide +kernel
theorem dX11_thenable_0 : decode cX11_thenable 0 = .ok (.aload_n 0, 1) := by decide +kernel
theorem dX11_thenable_1 : decode cX11_thenable 1 = .ok (.iload_n 1, 1) := by decide +kernel
theorem dX11_thenable_2 : decode cX11_thenable 2 = .ok (.iconst 0, 1) := by decide +kernel
theorem dX11_thenable_3 : decode cX11_thenable 3 = .ok (.iconst 2, 1) := by decide +kernel
theorem dX11_thenable_4 : decode cX11_thenable 4 = .ok (.invokevirtual 50, 3) := by decide +kernel
theorem dX11_thenable_7 : decode cX11_thenable 7 = .ok (.aload_n 0, 1) := by decide +kernel
theorem dX11_thenable_8 : decode cX11_thenable 8 = .ok (.iload_n 2, 1) := by decide +kernel
theorem dX11_thenable_9 : decode cX11_thenable 9 = .ok (.iconst 0, 1) := by decide +kernel
theorem dX11_thenable_10 : decode cX11_thenable 10 = .ok (.iconst 4, 1) := by decide +kernel
theorem dX11_thenable_11 : decode cX11_thenable 11 = .ok (.invokevirtual 50, 3) := by decide +kernel
theorem dX11_thenable_14 : decode cX11_thenable 14 = .ok (.aload_n 0, 1) := by decide +kernel
theorem dX11_thenable_15 : decode cX11_thenable 15 = .ok (.iload 4, 2) := by decide +kernel
theorem dX11_thenable_17 : decode cX11_thenable 17 = .ok (.iconst 0, 1) := by decide +kernel
theorem dX11_thenable_18 : decode cX11_thenable 18 = .ok (.iconst 4, 1) := by decide +kernel
theorem dX11_thenable_19 : decode cX11_thenable 19 = .ok (.invokevirtual 50, 3) := by decide +kernel
theorem dX11_thenable_22 : decode cX11_thenable 22 = .ok (.aload_n 0, 1) := by decide +kernel
theorem dX11_thenable_23 : decode cX11_thenable 23 = .ok (.iload_n 3, 1) := by decide +kernel
theorem dX11_thenable_24 : decode cX11_thenable 24 = .ok (.invokevirtual 54, 3) := by decide +kernel
theorem dX11_thenable_27 : decode cX11_thenable 27 = .ok (.aload_n 0, 1) := by decide +kernel
theorem dX11_thenable_28 : decode cX11_thenable 28 = .ok (.iload 5, 2) := by decide +kernel
theorem dX11_thenable_30 : decode cX11_thenable 30 = .ok (.invokevirtual 54, 3) := by decide +kernel
theorem dX11_thenable_33 : decode cX11_thenable 33 = .ok (.aload_n 0, 1) := by decide +kernel
theorem dX11_thenable_34 : decode cX11_thenable 34 = .ok (.bipush 8, 2) := by decide +kernel
theorem dX11_thenable_36 : decode cX11_thenable 36 = .ok (.invokevirtual 26, 3) := by decide +kernel
theorem dX11_thenable_39 : decode cX11_thenable 39 = .ok (.new 81, 3) := by decide +kernel
theorem dX11_thenable_42 : decode cX11_thenable 42 = .ok (.dup, 1) := by decide +kernel
theorem dX11_thenable_43 : decode cX11_thenable 43 = .ok (.aload_n 0, 1) := by decide +kernel
theorem dX11_thenable_44 : decode cX11_thenable 44 = .ok (.invokevirtual 83, 3) := by decide +kernel
theorem dX11_thenable_47 : decode cX11_thenable 47 = .ok (.iload_n 1, 1) := by decide +kernel
theorem dX11_thenable_48 : decode cX11_thenable 48 = .ok (.invokespecial 86, 3) := by decide +kernel
theorem dX11_thenable_51 : decode cX11_thenable 51 = .ok (.astore 6, 2) := by decide +kernel
theorem dX11_thenable_53 : decode cX11_thenable 53 = .ok (.aload 6, 2) := by decide +kernel
theorem dX11_thenable_55 : decode cX11_thenable 55 = .ok (.iload_n 2, 1) := by decide +kernel
theorem dX11_thenable_56 : decode cX11_thenable 56 = .ok (.putfield 89, 3) := by decide +kernel
theorem dX11_thenable_59 : decode cX11_thenable 59 = .ok (.aload 6, 2) := by decide +kernel
theorem dX11_thenable_61 : decode cX11_thenable 61 = .ok (.iload_n 3, 1) := by decide +kernel
theorem dX11_thenable_62 : decode cX11_thenable 62 = .ok (.putfield 92, 3) := by decide +kernel
theorem dX11_thenable_65 : decode cX11_thenable 65 = .ok (.aload 6, 2) := by decide +kernel
theorem dX11_thenable_67 : decode cX11_thenable 67 = .ok (.iload 4, 2) := by decide +kernel
theorem dX11_thenable_69 : decode cX11_thenable 69 = .ok (.putfield 95, 3) := by decide +kernel
theorem dX11_thenable_72 : decode cX11_thenable 72 = .ok (.aload 6, 2) := by decide +kernel
theorem dX11_thenable_74 : decode cX11_thenable 74 = .ok (.iload 5, 2) := by decide +kernel
theorem dX11_thenable_76 : decode cX11_thenable 76 = .ok (.putfield 98, 3) := by decide +kernel
theorem dX11_thenable_79 : decode cX11_thenable 79 = .ok (.aload_n 0, 1) := by decide +kernel
theorem dX11_thenable_80 : decode cX11_thenable 80 = .ok (.getfield 10, 3) := by decide +kernel
theorem dX11_thenable_83 : decode cX11_thenable 83 = .ok (.aload 6, 2) := by decide +kernel
theorem dX11_thenable_85 : decode cX11_thenable 85 = .ok (.invokevirtual 77, 3) := by decide +kernel
theorem dX11_thenable_88 : decode cX11_thenable 88 = .ok (.pop, 1) := by decide +kernel
theorem dX11_thenable_89 : decode cX11_thenable 89 = .ok (.aload 6, 2) := by decide +kernel
theorem dX11_thenable_91 : decode cX11_thenable 91 = .ok (.getfield 101, 3) := by decide +kernel
theorem dX11_thenable_94 : decode cX11_thenable 94 = .ok (.ireturn, 1) := by decide +kernel
theorem dX11_settle_0 : decode cX11_settle 0 = .ok (.aload_n 0, 1) := by decide +kernel
theorem dX11_settle_1 : decode cX11_settle 1 = .ok (.iload_n 1, 1) := by decide +kernel
theorem dX11_settle_2 : decode cX11_settle 2 = .ok (.invokevirtual 57, 3) := by decide +kernel
theorem dX11_settle_5 : decode cX11_settle 5 = .ok (.astore 4, 2) := by decide +kernel
theorem dX11_settle_7 : decode cX11_settle 7 = .ok (.aload_n 0, 1) := by decide +kernel
theorem dX11_settle_8 : decode cX11_settle 8 = .ok (.iload_n 3, 1) := by decide +kernel
theorem dX11_settle_9 : decode cX11_settle 9 = .ok (.invokevirtual 54, 3) := by decide +kernel
theorem dX11_settle_12 : decode cX11_settle 12 = .ok (.aload_n 0, 1) := by decide +kernel
theorem dX11_settle_13 : decode cX11_settle 13 = .ok (.bipush 8, 2) := by decide +kernel
theorem dX11_settle_15 : decode cX11_settle 15 = .ok (.invokevirtual 26, 3) := by decide +kernel
theorem dX11_settle_18 : decode cX11_settle 18 = .ok (.aload_n 0, 1) := by decide +kernel
theorem dX11_settle_19 : decode cX11_settle 19 = .ok (.aload 4, 2) := by decide +kernel
theorem dX11_settle_21 : decode cX11_settle 21 = .ok (.iload_n 2, 1) := by decide +kernel
theorem dX11_settle_22 : decode cX11_settle 22 = .ok (.iload_n 3, 1) := by decide +kernel
theorem dX11_settle_23 : decode cX11_settle 23 = .ok (.invokevirtual 102, 3) := by decide +kernel
theorem dX11_settle_26 : decode cX11_settle 26 = .ok (.ireturn, 1) := by decide +kernel
theorem dX11_later_0 : decode cX11_later 0 = .ok (.aload_n 0, 1) := by decide +kernel
theorem dX11_later_1 : decode cX11_later 1 = .ok (.iload_n 1, 1) := by decide +kernel
theorem dX11_later_2 : decode cX11_later 2 = .ok (.invokevirtual 106, 3) := by decide +kernel
theorem dX11_later_5 : decode cX11_later 5 = .ok (.astore 4, 2) := by decide +kernel
theorem dX11_later_7 : decode cX11_later 7 = .ok (.aload_n 0, 1) := by decide +kernel
theorem dX11_later_8 : decode cX11_later 8 = .ok (.iload_n 3, 1) := by decide +kernel
theorem dX11_later_9 : decode cX11_later 9 = .ok (.invokevirtual 54, 3) := by decide +kernel
theorem dX11_later_12 : decode cX11_later 12 = .ok (.aload_n 0, 1) := by decide +kernel
theorem dX11_later_13 : decode cX11_later 13 = .ok (.bipush 8, 2) := by decide +kernel
theorem dX11_later_15 : decode cX11_later 15 = .ok (.invokevirtual 26, 3) := by decide +kernel
theorem dX11_later_18 : decode cX11_later 18 = .ok (.aload 4, 2) := by decide +kernel
theorem dX11_later_20 : decode cX11_later 20 = .ok (.getfield 110, 3) := by decide +kernel
theorem dX11_later_23 : decode cX11_later 23 = .ok (.ifnonnull 5, 3) := by decide +kernel
theorem dX11_later_26 : decode cX11_later 26 = .ok (.iconst (-1), 1) := by decide +kernel
theorem dX11_later_27 : decode cX11_later 27 = .ok (.ireturn, 1) := by decide +kernel
theorem dX11_later_28 : decode cX11_later 28 = .ok (.aload_n 0, 1) := by decide +kernel
theorem dX11_later_29 : decode cX11_later 29 = .ok (.aload 4, 2) := by decide +kernel
theorem dX11_later_31 : decode cX11_later 31 = .ok (.getfield 110, 3) := by decide +kernel
theorem dX11_later_34 : decode cX11_later 34 = .ok (.iload_n 2, 1) := by decide +kernel
theorem dX11_later_35 : decode cX11_later 35 = .ok (.iload_n 3, 1) := by decide +kernel
theorem dX11_later_36 : decode cX11_later 36 = .ok (.invokevirtual 102, 3) := by decide +kernel
theorem dX11_later_39 : decode cX11_later 39 = .ok (.ifCond .eq 7, 3) := by decide +kernel
theorem dX11_later_42 : decode cX11_later 42 = .ok (.iconst 1, 1) := by decide +kernel
theorem dX11_later_43 : decode cX11_later 43 = .ok (.goto 4, 3) := by decide +kernel
theorem dX11_later_46 : decode cX11_later 46 = .ok (.iconst 0, 1) := by decide +kernel
theorem dX11_later_47 : decode cX11_later 47 = .ok (.ireturn, 1) := by decide +kernel
theorem dX11_then_0 : decode cX11_then 0 = .ok (.aload_n 0, 1) := by decide +kernel
theorem dX11_then_1 : decode cX11_then 1 = .ok (.iload_n 1, 1) := by decide +kernel
theorem dX11_then_2 : decode cX11_then 2 = .ok (.invokevirtual 111, 3) := by decide +kernel
theorem dX11_then_5 : decode cX11_then 5 = .ok (.astore 5, 2) := by decide +kernel
theorem dX11_then_7 : decode cX11_then 7 = .ok (.aload_n 0, 1) := by decide +kernel
theorem dX11_then_8 : decode cX11_then 8 = .ok (.iload_n 2, 1) := by decide +kernel
theorem dX11_then_9 : decode cX11_then 9 = .ok (.invokevirtual 115, 3) := by decide +kernel
theorem dX11_then_12 : decode cX11_then 12 = .ok (.astore 6, 2) := by decide +kernel
theorem dX11_then_14 : decode cX11_then 14 = .ok (.iload 4, 2) := by decide +kernel
theorem dX11_then_16 : decode cX11_then 16 = .ok (.ifCond .eq 11, 3) := by decide +kernel
theorem dX11_then_19 : decode cX11_then 19 = .ok (.aload_n 0, 1) := by decide +kernel
theorem dX11_then_20 : decode cX11_then 20 = .ok (.iload_n 3, 1) := by decide +kernel
theorem dX11_then_21 : decode cX11_then 21 = .ok (.invokevirtual 115, 3) := by decide +kernel
theorem dX11_then_24 : decode cX11_then 24 = .ok (.goto 4, 3) := by decide +kernel
theorem dX11_then_27 : decode cX11_then 27 = .ok (.aconst_null, 1) := by decide +kernel
theorem dX11_then_28 : decode cX11_then 28 = .ok (.astore 7, 2) := by decide +kernel
theorem dX11_then_30 : decode cX11_then 30 = .ok (.aload_n 0, 1) := by decide +kernel
theorem dX11_then_31 : decode cX11_then 31 = .ok (.bipush 8, 2) := by decide +kernel
theorem dX11_then_33 : decode cX11_then 33 = .ok (.invokevirtual 26, 3) := by decide +kernel
theorem dX11_then_36 : decode cX11_then 36 = .ok (.aload_n 0, 1) := by decide +kernel
theorem dX11_then_37 : decode cX11_then 37 = .ok (.aload 5, 2) := by decide +kernel
theorem dX11_then_39 : decode cX11_then 39 = .ok (.aload 6, 2) := by decide +kernel
theorem dX11_then_41 : decode cX11_then 41 = .ok (.aload 7, 2) := by decide +kernel
theorem dX11_then_43 : decode cX11_then 43 = .ok (.invokevirtual 119, 3) := by decide +kernel
theorem dX11_then_46 : decode cX11_then 46 = .ok (.ireturn, 1) := by decide +kernel
theorem dX11_lastly_0 : decode cX11_lastly 0 = .ok (.aload_n 0, 1) := by decide +kernel
theorem dX11_lastly_1 : decode cX11_lastly 1 = .ok (.iload_n 1, 1) := by decide +kernel
theorem dX11_lastly_2 : decode cX11_lastly 2 = .ok (.invokevirtual 111, 3) := by decide +kernel
theorem dX11_lastly_5 : decode cX11_lastly 5 = .ok (.astore_n 3, 1) := by decide +kernel
theorem dX11_lastly_6 : decode cX11_lastly 6 = .ok (.aload_n 0, 1) := by decide +kernel
theorem dX11_lastly_7 : decode cX11_lastly 7 = .ok (.iload_n 2, 1) := by decide +kernel
theorem dX11_lastly_8 : decode cX11_lastly 8 = .ok (.invokevirtual 115, 3) := by decide +kernel
theorem dX11_lastly_11 : decode cX11_lastly 11 = .ok (.astore 4, 2) := by decide +kernel
theorem dX11_lastly_13 : decode cX11_lastly 13 = .ok (.aload_n 0, 1) := by decide +kernel
theorem dX11_lastly_14 : decode cX11_lastly 14 = .ok (.bipush 8, 2) := by decide +kernel
theorem dX11_lastly_16 : decode cX11_lastly 16 = .ok (.invokevirtual 26, 3) := by decide +kernel
theorem dX11_lastly_19 : decode cX11_lastly 19 = .ok (.aload 4, 2) := by decide +kernel
theorem dX11_lastly_21 : decode cX11_lastly 21 = .ok (.ifnonnull 11, 3) := by decide +kernel
theorem dX11_lastly_24 : decode cX11_lastly 24 = .ok (.aload_n 0, 1) := by decide +kernel
theorem dX11_lastly_25 : decode cX11_lastly 25 = .ok (.aload_n 3, 1) := by decide +kernel
theorem dX11_lastly_26 : decode cX11_lastly 26 = .ok (.aconst_null, 1) := by decide +kernel
theorem dX11_lastly_27 : decode cX11_lastly 27 = .ok (.aconst_null, 1) := by decide +kernel
theorem dX11_lastly_28 : decode cX11_lastly 28 = .ok (.invokevirtual 119, 3) := by decide +kernel
theorem dX11_lastly_31 : decode cX11_lastly 31 = .ok (.ireturn, 1) := by decide +kernel
theorem dX11_lastly_32 : decode cX11_lastly 32 = .ok (.aload_n 0, 1) := by decide +kernel
theorem dX11_lastly_33 : decode cX11_lastly 33 = .ok (.aload_n 3, 1) := by decide +kernel
theorem dX11_lastly_34 : decode cX11_lastly 34 = .ok (.new 123, 3) := by decide +kernel
theorem dX11_lastly_37 : decode cX11_lastly 37 = .ok (.dup, 1) := by decide +kernel
theorem dX11_lastly_38 : decode cX11_lastly 38 = .ok (.aload 4, 2) := by decide +kernel
theorem dX11_lastly_40 : decode cX11_lastly 40 = .ok (.iconst 0, 1) := by decide +kernel
theorem dX11_lastly_41 : decode cX11_lastly 41 = .ok (.invokespecial 125, 3) := by decide +kernel
theorem dX11_lastly_44 : decode cX11_lastly 44 = .ok (.new 123, 3) := by decide +kernel
theorem dX11_lastly_47 : decode cX11_lastly 47 = .ok (.dup, 1) := by decide +kernel
theorem dX11_lastly_48 : decode cX11_lastly 48 = .ok (.aload 4, 2) := by decide +kernel
theorem dX11_lastly_50 : decode cX11_lastly 50 = .ok (.iconst 2, 1) := by decide +kernel
theorem dX11_lastly_51 : decode cX11_lastly 51 = .ok (.invokespecial 125, 3) := by decide +kernel
theorem dX11_lastly_54 : decode cX11_lastly 54 = .ok (.invokevirtual 119, 3) := by decide +kernel
theorem dX11_lastly_57 : decode cX11_lastly 57 = .ok (.ireturn, 1) := by decide +kernel
theorem dX11_wrap_0 : decode cX11_wrap 0 = .ok (.aload_n 0, 1) := by decide +kernel
theorem dX11_wrap_1 : decode cX11_wrap 1 = .ok (.iload_n 1, 1) := by decide +kernel
theorem dX11_wrap_2 : decode cX11_wrap 2 = .ok (.invokevirtual 54, 3) := by decide +kernel
theorem dX11_wrap_5 : decode cX11_wrap 5 = .ok (.aload_n 0, 1) := by decide +kernel
theorem dX11_wrap_6 : decode cX11_wrap 6 = .ok (.bipush 8, 2) := by decide +kernel
theorem dX11_wrap_8 : decode cX11_wrap 8 = .ok (.invokevirtual 26, 3) := by decide +kernel
theorem dX11_wrap_11 : decode cX11_wrap 11 = .ok (.aload_n 0, 1) := by decide +kernel
theorem dX11_wrap_12 : decode cX11_wrap 12 = .ok (.iload_n 1, 1) := by decide +kernel
theorem dX11_wrap_13 : decode cX11_wrap 13 = .ok (.invokevirtual 128, 3) := by decide +kernel
theorem dX11_wrap_16 : decode cX11_wrap 16 = .ok (.getfield 46, 3) := by decide +kernel
theorem dX11_wrap_19 : decode cX11_wrap 19 = .ok (.ireturn, 1) := by decide +kernel
theorem dX11_broken_0 : decode cX11_broken 0 = .ok (.aload_n 0, 1) := by decide +kernel
theorem dX11_broken_1 : decode cX11_broken 1 = .ok (.iload_n 1, 1) := by decide +kernel
theorem dX11_broken_2 : decode cX11_broken 2 = .ok (.invokevirtual 54, 3) := by decide +kernel
theorem dX11_broken_5 : decode cX11_broken 5 = .ok (.aload_n 0, 1) := by decide +kernel
theorem dX11_broken_6 : decode cX11_broken 6 = .ok (.bipush 8, 2) := by decide +kernel
theorem dX11_broken_8 : decode cX11_broken 8 = .ok (.invokevirtual 26, 3) := by decide +kernel
theorem dX11_broken_11 : decode cX11_broken 11 = .ok (.aload_n 0, 1) := by decide +kernel
theorem dX11_broken_12 : decode cX11_broken 12 = .ok (.invokevirtual 30, 3) := by decide +kernel
theorem dX11_broken_15 : decode cX11_broken 15 = .ok (.astore_n 2, 1) := by decide +kernel
theorem dX11_broken_16 : decode cX11_broken 16 = .ok (.aload_n 0, 1) := by decide +kernel
theorem dX11_broken_17 : decode cX11_broken 17 = .ok (.aload_n 2, 1) := by decide +kernel
theorem dX11_broken_18 : decode cX11_broken 18 = .ok (.iload_n 1, 1) := by decide +kernel
theorem dX11_broken_19 : decode cX11_broken 19 = .ok (.invokevirtual 131, 3) := by decide +kernel
theorem dX11_broken_22 : decode cX11_broken 22 = .ok (.aload_n 2, 1) := by decide +kernel
theorem dX11_broken_23 : decode cX11_broken 23 = .ok (.getfield 34, 3) := by decide +kernel
theorem dX11_broken_26 : decode cX11_broken 26 = .ok (.getfield 46, 3) := by decide +kernel
theorem dX11_broken_29 : decode cX11_broken 29 = .ok (.ireturn, 1) := by decide +kernel
theorem dX11_item_0 : decode cX11_item 0 = .ok (.aload_n 0, 1) := by decide +kernel
theorem dX11_item_1 : decode cX11_item 1 = .ok (.iload_n 1, 1) := by decide +kernel
theorem dX11_item_2 : decode cX11_item 2 = .ok (.invokevirtual 54, 3) := by decide +kernel
theorem dX11_item_5 : decode cX11_item 5 = .ok (.aload_n 0, 1) := by decide +kernel
theorem dX11_item_6 : decode cX11_item 6 = .ok (.getfield 135, 3) := by decide +kernel
theorem dX11_item_9 : decode cX11_item 9 = .ok (.sipush 200, 3) := by decide +kernel
theorem dX11_item_12 : decode cX11_item 12 = .ok (.if_icmp .lt 13, 3) := by decide +kernel
theorem dX11_item_15 : decode cX11_item 15 = .ok (.new 65, 3) := by decide +kernel
theorem dX11_item_18 : decode cX11_item 18 = .ok (.dup, 1) := by decide +kernel
theorem dX11_item_19 : decode cX11_item 19 = .ok (.ldc 138, 2) := by decide +kernel
theorem dX11_item_21 : decode cX11_item 21 = .ok (.invokespecial 69, 3) := by decide +kernel
theorem dX11_item_24 : decode cX11_item 24 = .ok (.athrow, 1) := by decide +kernel
theorem dX11_item_25 : decode cX11_item 25 = .ok (.aload_n 0, 1) := by decide +kernel
theorem dX11_item_26 : decode cX11_item 26 = .ok (.getfield 19, 3) := by decide +kernel
theorem dX11_item_29 : decode cX11_item 29 = .ok (.aload_n 0, 1) := by decide +kernel
theorem dX11_item_30 : decode cX11_item 30 = .ok (.getfield 135, 3) := by decide +kernel
theorem dX11_item_33 : decode cX11_item 33 = .ok (.iload_n 1, 1) := by decide +kernel
theorem dX11_item_34 : decode cX11_item 34 = .ok (.iastore, 1) := by decide +kernel
theorem dX11_item_35 : decode cX11_item 35 = .ok (.aload_n 0, 1) := by decide +kernel
theorem dX11_item_36 : decode cX11_item 36 = .ok (.dup, 1) := by decide +kernel
theorem dX11_item_37 : decode cX11_item 37 = .ok (.getfield 135, 3) := by decide +kernel
theorem dX11_item_40 : decode cX11_item 40 = .ok (.iconst 1, 1) := by decide +kernel
theorem dX11_item_41 : decode cX11_item 41 = .ok (.iadd, 1) := by decide +kernel
theorem dX11_item_42 : decode cX11_item 42 = .ok (.putfield 135, 3) := by decide +kernel
theorem dX11_item_45 : decode cX11_item 45 = .ok (.aload_n 0, 1) := by decide +kernel
theorem dX11_item_46 : decode cX11_item 46 = .ok (.getfield 135, 3) := by decide +kernel
theorem dX11_item_49 : decode cX11_item 49 = .ok (.ireturn, 1) := by decide +kernel
theorem dX11_combine_0 : decode cX11_combine 0 = .ok (.aload_n 0, 1) := by decide +kernel
theorem dX11_combine_1 : decode cX11_combine 1 = .ok (.iload_n 1, 1) := by decide +kernel
theorem dX11_combine_2 : decode cX11_combine 2 = .ok (.iconst 0, 1) := by decide +kernel
theorem dX11_combine_3 : decode cX11_combine 3 = .ok (.iconst 3, 1) := by decide +kernel
theorem dX11_combine_4 : decode cX11_combine 4 = .ok (.invokevirtual 50, 3) := by decide +kernel
theorem dX11_combine_7 : decode cX11_combine 7 = .ok (.aload_n 0, 1) := by decide +kernel
theorem dX11_combine_8 : decode cX11_combine 8 = .ok (.bipush 8, 2) := by decide +kernel
theorem dX11_combine_10 : decode cX11_combine 10 = .ok (.iconst 2, 1) := by decide +kernel
theorem dX11_combine_11 : decode cX11_combine 11 = .ok (.aload_n 0, 1) := by decide +kernel
theorem dX11_combine_12 : decode cX11_combine 12 = .ok (.getfield 135, 3) := by decide +kernel
theorem dX11_combine_15 : decode cX11_combine 15 = .ok (.imul, 1) := by decide +kernel
theorem dX11_combine_16 : decode cX11_combine 16 = .ok (.iadd, 1) := by decide +kernel
theorem dX11_combine_17 : decode cX11_combine 17 = .ok (.invokevirtual 26, 3) := by decide +kernel
theorem dX11_combine_20 : decode cX11_combine 20 = .ok (.aload_n 0, 1) := by decide +kernel
theorem dX11_combine_21 : decode cX11_combine 21 = .ok (.invokevirtual 140, 3) := by decide +kernel
theorem dX11_combine_24 : decode cX11_combine 24 = .ok (.astore_n 2, 1) := by decide +kernel
theorem dX11_combine_25 : decode cX11_combine 25 = .ok (.aload_n 0, 1) := by decide +kernel
theorem dX11_combine_26 : decode cX11_combine 26 = .ok (.invokevirtual 30, 3) := by decide +kernel
theorem dX11_combine_29 : decode cX11_combine 29 = .ok (.astore_n 3, 1) := by decide +kernel
theorem dX11_combine_30 : decode cX11_combine 30 = .ok (.new 144, 3) := by decide +kernel
theorem dX11_combine_33 : decode cX11_combine 33 = .ok (.dup, 1) := by decide +kernel
theorem dX11_combine_34 : decode cX11_combine 34 = .ok (.iload_n 1, 1) := by decide +kernel
theorem dX11_combine_35 : decode cX11_combine 35 = .ok (.aload_n 2, 1) := by decide +kernel
theorem dX11_combine_36 : decode cX11_combine 36 = .ok (.arraylength, 1) := by decide +kernel
theorem dX11_combine_37 : decode cX11_combine 37 = .ok (.aload_n 3, 1) := by decide +kernel
theorem dX11_combine_38 : decode cX11_combine 38 = .ok (.invokespecial 146, 3) := by decide +kernel
theorem dX11_combine_41 : decode cX11_combine 41 = .ok (.astore 4, 2) := by decide +kernel
theorem dX11_combine_43 : decode cX11_combine 43 = .ok (.iconst 0, 1) := by decide +kernel
theorem dX11_combine_44 : decode cX11_combine 44 = .ok (.istore 5, 2) := by decide +kernel
theorem dX11_combine_46 : decode cX11_combine 46 = .ok (.iload 5, 2) := by decide +kernel
theorem dX11_combine_48 : decode cX11_combine 48 = .ok (.aload_n 2, 1) := by decide +kernel
theorem dX11_combine_49 : decode cX11_combine 49 = .ok (.arraylength, 1) := by decide +kernel
theorem dX11_combine_50 : decode cX11_combine 50 = .ok (.if_icmp .ge 42, 3) := by decide +kernel
theorem dX11_combine_53 : decode cX11_combine 53 = .ok (.aload_n 0, 1) := by decide +kernel
theorem dX11_combine_54 : decode cX11_combine 54 = .ok (.aload_n 2, 1) := by decide +kernel
theorem dX11_combine_55 : decode cX11_combine 55 = .ok (.iload 5, 2) := by decide +kernel
theorem dX11_combine_57 : decode cX11_combine 57 = .ok (.iaload, 1) := by decide +kernel
theorem dX11_combine_58 : decode cX11_combine 58 = .ok (.invokevirtual 128, 3) := by decide +kernel
theorem dX11_combine_61 : decode cX11_combine 61 = .ok (.astore 6, 2) := by decide +kernel
theorem dX11_combine_63 : decode cX11_combine 63 = .ok (.aload_n 0, 1) := by decide +kernel
theorem dX11_combine_64 : decode cX11_combine 64 = .ok (.aload 6, 2) := by decide +kernel
theorem dX11_combine_66 : decode cX11_combine 66 = .ok (.aload_n 0, 1) := by decide +kernel
theorem dX11_combine_67 : decode cX11_combine 67 = .ok (.aload 4, 2) := by decide +kernel
theorem dX11_combine_69 : decode cX11_combine 69 = .ok (.iload 5, 2) := by decide +kernel
theorem dX11_combine_71 : decode cX11_combine 71 = .ok (.invokevirtual 149, 3) := by decide +kernel
theorem dX11_combine_74 : decode cX11_combine 74 = .ok (.aload_n 0, 1) := by decide +kernel
theorem dX11_combine_75 : decode cX11_combine 75 = .ok (.aload 4, 2) := by decide +kernel
theorem dX11_combine_77 : decode cX11_combine 77 = .ok (.iload 5, 2) := by decide +kernel
theorem dX11_combine_79 : decode cX11_combine 79 = .ok (.invokevirtual 153, 3) := by decide +kernel
theorem dX11_combine_82 : decode cX11_combine 82 = .ok (.invokevirtual 119, 3) := by decide +kernel
theorem dX11_combine_85 : decode cX11_combine 85 = .ok (.pop, 1) := by decide +kernel
theorem dX11_combine_86 : decode cX11_combine 86 = .ok (.iinc 5 1, 3) := by decide +kernel
theorem dX11_combine_89 : decode cX11_combine 89 = .ok (.goto (-43), 3) := by decide +kernel
theorem dX11_combine_92 : decode cX11_combine 92 = .ok (.aload_n 2, 1) := by decide +kernel
theorem dX11_combine_93 : decode cX11_combine 93 = .ok (.arraylength, 1) := by decide +kernel
theorem dX11_combine_94 : decode cX11_combine 94 = .ok (.ifCond .ne 14, 3) := by decide +kernel
theorem dX11_combine_97 : decode cX11_combine 97 = .ok (.iload_n 1, 1) := by decide +kernel
theorem dX11_combine_98 : decode cX11_combine 98 = .ok (.iconst 3, 1) := by decide +kernel
theorem dX11_combine_99 : decode cX11_combine 99 = .ok (.if_icmp .eq 9, 3) := by decide +kernel
theorem dX11_combine_102 : decode cX11_combine 102 = .ok (.aload_n 0, 1) := by decide +kernel
theorem dX11_combine_103 : decode cX11_combine 103 = .ok (.aload 4, 2) := by decide +kernel
theorem dX11_combine_105 : decode cX11_combine 105 = .ok (.invokevirtual 156, 3) := by decide +kernel
theorem dX11_combine_108 : decode cX11_combine 108 = .ok (.aload_n 3, 1) := by decide +kernel
theorem dX11_combine_109 : decode cX11_combine 109 = .ok (.getfield 34, 3) := by decide +kernel
theorem dX11_combine_112 : decode cX11_combine 112 = .ok (.getfield 46, 3) := by decide +kernel
theorem dX11_combine_115 : decode cX11_combine 115 = .ok (.ireturn, 1) := by decide +kernel
theorem dX11_async_0 : decode cX11_async 0 = .ok (.aload_n 0, 1) := by decide +kernel
theorem dX11_async_1 : decode cX11_async 1 = .ok (.iload_n 1, 1) := by decide +kernel
theorem dX11_async_2 : decode cX11_async 2 = .ok (.invokevirtual 54, 3) := by decide +kernel
theorem dX11_async_5 : decode cX11_async 5 = .ok (.aload_n 0, 1) := by decide +kernel
theorem dX11_async_6 : decode cX11_async 6 = .ok (.iload_n 2, 1) := by decide +kernel
theorem dX11_async_7 : decode cX11_async 7 = .ok (.invokevirtual 115, 3) := by decide +kernel
theorem dX11_async_10 : decode cX11_async 10 = .ok (.astore_n 3, 1) := by decide +kernel
theorem dX11_async_11 : decode cX11_async 11 = .ok (.aload_n 0, 1) := by decide +kernel
theorem dX11_async_12 : decode cX11_async 12 = .ok (.bipush 8, 2) := by decide +kernel
theorem dX11_async_14 : decode cX11_async 14 = .ok (.invokevirtual 26, 3) := by decide +kernel
theorem dX11_async_17 : decode cX11_async 17 = .ok (.aload_n 0, 1) := by decide +kernel
theorem dX11_async_18 : decode cX11_async 18 = .ok (.invokevirtual 30, 3) := by decide +kernel
theorem dX11_async_21 : decode cX11_async 21 = .ok (.astore 4, 2) := by decide +kernel
theorem dX11_async_23 : decode cX11_async 23 = .ok (.aload_n 0, 1) := by decide +kernel
theorem dX11_async_24 : decode cX11_async 24 = .ok (.new 160, 3) := by decide +kernel
theorem dX11_async_27 : decode cX11_async 27 = .ok (.dup, 1) := by decide +kernel
theorem dX11_async_28 : decode cX11_async 28 = .ok (.aload_n 0, 1) := by decide +kernel
theorem dX11_async_29 : decode cX11_async 29 = .ok (.invokevirtual 140, 3) := by decide +kernel
theorem dX11_async_32 : decode cX11_async 32 = .ok (.aload_n 3, 1) := by decide +kernel
theorem dX11_async_33 : decode cX11_async 33 = .ok (.iload_n 1, 1) := by decide +kernel
theorem dX11_async_34 : decode cX11_async 34 = .ok (.aload 4, 2) := by decide +kernel
theorem dX11_async_36 : decode cX11_async 36 = .ok (.invokespecial 162, 3) := by decide +kernel
theorem dX11_async_39 : decode cX11_async 39 = .ok (.invokevirtual 165, 3) := by decide +kernel
theorem dX11_async_42 : decode cX11_async 42 = .ok (.aload 4, 2) := by decide +kernel
theorem dX11_async_44 : decode cX11_async 44 = .ok (.getfield 34, 3) := by decide +kernel
theorem dX11_async_47 : decode cX11_async 47 = .ok (.getfield 46, 3) := by decide +kernel
theorem dX11_async_50 : decode cX11_async 50 = .ok (.ireturn, 1) := by decide +kernel
theorem dX11_jobs_0 : decode cX11_jobs 0 = .ok (.iconst 0, 1) := by decide +kernel
theorem dX11_jobs_1 : decode cX11_jobs 1 = .ok (.istore_n 2, 1) := by decide +kernel
theorem dX11_jobs_2 : decode cX11_jobs 2 = .ok (.aload_n 0, 1) := by decide +kernel
theorem dX11_jobs_3 : decode cX11_jobs 3 = .ok (.getfield 169, 3) := by decide +kernel
theorem dX11_jobs_6 : decode cX11_jobs 6 = .ok (.astore_n 3, 1) := by decide +kernel
theorem dX11_jobs_7 : decode cX11_jobs 7 = .ok (.aload_n 3, 1) := by decide +kernel
theorem dX11_jobs_8 : decode cX11_jobs 8 = .ok (.ifnull 39, 3) := by decide +kernel
theorem dX11_jobs_11 : decode cX11_jobs 11 = .ok (.iload_n 2, 1) := by decide +kernel
theorem dX11_jobs_12 : decode cX11_jobs 12 = .ok (.iload_n 1, 1) := by decide +kernel
theorem dX11_jobs_13 : decode cX11_jobs 13 = .ok (.if_icmp .ge 34, 3) := by decide +kernel
theorem dX11_jobs_16 : decode cX11_jobs 16 = .ok (.aload_n 0, 1) := by decide +kernel
theorem dX11_jobs_17 : decode cX11_jobs 17 = .ok (.bipush 8, 2) := by decide +kernel
theorem dX11_jobs_19 : decode cX11_jobs 19 = .ok (.invokevirtual 26, 3) := by decide +kernel
theorem dX11_jobs_22 : decode cX11_jobs 22 = .ok (.aload_n 0, 1) := by decide +kernel
theorem dX11_jobs_23 : decode cX11_jobs 23 = .ok (.invokevirtual 173, 3) := by decide +kernel
theorem dX11_jobs_26 : decode cX11_jobs 26 = .ok (.aload_n 0, 1) := by decide +kernel
theorem dX11_jobs_27 : decode cX11_jobs 27 = .ok (.aload_n 3, 1) := by decide +kernel
theorem dX11_jobs_28 : decode cX11_jobs 28 = .ok (.invokevirtual 176, 3) := by decide +kernel
theorem dX11_jobs_31 : decode cX11_jobs 31 = .ok (.aload_n 0, 1) := by decide +kernel
theorem dX11_jobs_32 : decode cX11_jobs 32 = .ok (.aload_n 3, 1) := by decide +kernel
theorem dX11_jobs_33 : decode cX11_jobs 33 = .ok (.invokevirtual 180, 3) := by decide +kernel
theorem dX11_jobs_36 : decode cX11_jobs 36 = .ok (.iinc 2 1, 3) := by decide +kernel
theorem dX11_jobs_39 : decode cX11_jobs 39 = .ok (.aload_n 0, 1) := by decide +kernel
theorem dX11_jobs_40 : decode cX11_jobs 40 = .ok (.getfield 169, 3) := by decide +kernel
theorem dX11_jobs_43 : decode cX11_jobs 43 = .ok (.astore_n 3, 1) := by decide +kernel
theorem dX11_jobs_44 : decode cX11_jobs 44 = .ok (.goto (-37), 3) := by decide +kernel
theorem dX11_jobs_47 : decode cX11_jobs 47 = .ok (.iload_n 2, 1) := by decide +kernel
theorem dX11_jobs_48 : decode cX11_jobs 48 = .ok (.ireturn, 1) := by decide +kernel
theorem dX11_state_0 : decode cX11_state 0 = .ok (.aload_n 0, 1) := by decide +kernel
theorem dX11_state_1 : decode cX11_state 1 = .ok (.iload_n 1, 1) := by decide +kernel
theorem dX11_state_2 : decode cX11_state 2 = .ok (.invokevirtual 111, 3) := by decide +kernel
theorem dX11_state_5 : decode cX11_state 5 = .ok (.astore_n 2, 1) := by decide +kernel
theorem dX11_state_6 : decode cX11_state 6 = .ok (.aload_n 2, 1) := by decide +kernel
theorem dX11_state_7 : decode cX11_state 7 = .ok (.getfield 183, 3) := by decide +kernel
theorem dX11_state_10 : decode cX11_state 10 = .ok (.ifCond .eq 12, 3) := by decide +kernel
theorem dX11_state_13 : decode cX11_state 13 = .ok (.aload_n 2, 1) := by decide +kernel
theorem dX11_state_14 : decode cX11_state 14 = .ok (.getfield 187, 3) := by decide +kernel
theorem dX11_state_17 : decode cX11_state 17 = .ok (.iconst 4, 1) := by decide +kernel
theorem dX11_state_18 : decode cX11_state 18 = .ok (.iadd, 1) := by decide +kernel
theorem dX11_state_19 : decode cX11_state 19 = .ok (.goto 7, 3) := by decide +kernel
theorem dX11_state_22 : decode cX11_state 22 = .ok (.aload_n 2, 1) := by decide +kernel
theorem dX11_state_23 : decode cX11_state 23 = .ok (.getfield 187, 3) := by decide +kernel
theorem dX11_state_26 : decode cX11_state 26 = .ok (.ireturn, 1) := by decide +kernel
theorem dX11_result_0 : decode cX11_result 0 = .ok (.aload_n 0, 1) := by decide +kernel
theorem dX11_result_1 : decode cX11_result 1 = .ok (.iload_n 1, 1) := by decide +kernel
theorem dX11_result_2 : decode cX11_result 2 = .ok (.invokevirtual 111, 3) := by decide +kernel
theorem dX11_result_5 : decode cX11_result 5 = .ok (.getfield 190, 3) := by decide +kernel
theorem dX11_result_8 : decode cX11_result 8 = .ok (.ireturn, 1) := by decide +kernel
theorem dX11_kind_0 : decode cX11_kind 0 = .ok (.aload_n 0, 1) := by decide +kernel
theorem dX11_kind_1 : decode cX11_kind 1 = .ok (.iload_n 1, 1) := by decide +kernel
theorem dX11_kind_2 : decode cX11_kind 2 = .ok (.invokevirtual 193, 3) := by decide +kernel
theorem dX11_kind_5 : decode cX11_kind 5 = .ok (.getfield 197, 3) := by decide +kernel
theorem dX11_kind_8 : decode cX11_kind 8 = .ok (.ireturn, 1) := by decide +kernel
theorem dX11_part_0 : decode cX11_part 0 = .ok (.aload_n 0, 1) := by decide +kernel
theorem dX11_part_1 : decode cX11_part 1 = .ok (.iload_n 1, 1) := by decide +kernel
theorem dX11_part_2 : decode cX11_part 2 = .ok (.invokevirtual 202, 3) := by decide +kernel
theorem dX11_part_5 : decode cX11_part 5 = .ok (.astore_n 3, 1) := by decide +kernel
theorem dX11_part_6 : decode cX11_part 6 = .ok (.iload_n 2, 1) := by decide +kernel
theorem dX11_part_7 : decode cX11_part 7 = .ok (.iconst (-1), 1) := by decide +kernel
theorem dX11_part_8 : decode cX11_part 8 = .ok (.if_icmp .ne 6, 3) := by decide +kernel
theorem dX11_part_11 : decode cX11_part 11 = .ok (.aload_n 3, 1) := by decide +kernel
theorem dX11_part_12 : decode cX11_part 12 = .ok (.arraylength, 1) := by decide +kernel
theorem dX11_part_13 : decode cX11_part 13 = .ok (.ireturn, 1) := by decide +kernel
theorem dX11_part_14 : decode cX11_part 14 = .ok (.aload_n 0, 1) := by decide +kernel
theorem dX11_part_15 : decode cX11_part 15 = .ok (.iload_n 2, 1) := by decide +kernel
theorem dX11_part_16 : decode cX11_part 16 = .ok (.iconst 0, 1) := by decide +kernel
theorem dX11_part_17 : decode cX11_part 17 = .ok (.aload_n 3, 1) := by decide +kernel
theorem dX11_part_18 : decode cX11_part 18 = .ok (.arraylength, 1) := by decide +kernel
theorem dX11_part_19 : decode cX11_part 19 = .ok (.iconst 1, 1) := by decide +kernel
theorem dX11_part_20 : decode cX11_part 20 = .ok (.isub, 1) := by decide +kernel
theorem dX11_part_21 : decode cX11_part 21 = .ok (.invokevirtual 50, 3) := by decide +kernel
theorem dX11_part_24 : decode cX11_part 24 = .ok (.aload_n 3, 1) := by decide +kernel
theorem dX11_part_25 : decode cX11_part 25 = .ok (.iload_n 2, 1) := by decide +kernel
theorem dX11_part_26 : decode cX11_part 26 = .ok (.iaload, 1) := by decide +kernel
theorem dX11_part_27 : decode cX11_part 27 = .ok (.ireturn, 1) := by decide +kernel
theorem dX11_log_0 : decode cX11_log 0 = .ok (.iload_n 1, 1) := by decide +kernel
theorem dX11_log_1 : decode cX11_log 1 = .ok (.ifCond .lt 11, 3) := by decide +kernel
theorem dX11_log_4 : decode cX11_log 4 = .ok (.iload_n 1, 1) := by decide +kernel
theorem dX11_log_5 : decode cX11_log 5 = .ok (.aload_n 0, 1) := by decide +kernel
theorem dX11_log_6 : decode cX11_log 6 = .ok (.getfield 206, 3) := by decide +kernel
theorem dX11_log_9 : decode cX11_log 9 = .ok (.if_icmp .lt 6, 3) := by decide +kernel
theorem dX11_log_12 : decode cX11_log 12 = .ok (.ldc 209, 2) := by decide +kernel
theorem dX11_log_14 : decode cX11_log 14 = .ok (.ireturn, 1) := by decide +kernel
theorem dX11_log_15 : decode cX11_log 15 = .ok (.aload_n 0, 1) := by decide +kernel
theorem dX11_log_16 : decode cX11_log 16 = .ok (.getfield 23, 3) := by decide +kernel
theorem dX11_log_19 : decode cX11_log 19 = .ok (.iload_n 2, 1) := by decide +kernel
theorem dX11_log_20 : decode cX11_log 20 = .ok (.ifCond .eq 11, 3) := by decide +kernel
theorem dX11_log_23 : decode cX11_log 23 = .ok (.iconst 2, 1) := by decide +kernel
theorem dX11_log_24 : decode cX11_log 24 = .ok (.iload_n 1, 1) := by decide +kernel
theorem dX11_log_25 : decode cX11_log 25 = .ok (.imul, 1) := by decide +kernel
theorem dX11_log_26 : decode cX11_log 26 = .ok (.iconst 1, 1) := by decide +kernel
theorem dX11_log_27 : decode cX11_log 27 = .ok (.iadd, 1) := by decide +kernel
theorem dX11_log_28 : decode cX11_log 28 = .ok (.goto 6, 3) := by decide +kernel
theorem dX11_log_31 : decode cX11_log 31 = .ok (.iconst 2, 1) := by decide +kernel
theorem dX11_log_32 : decode cX11_log 32 = .ok (.iload_n 1, 1) := by decide +kernel
theorem dX11_log_33 : decode cX11_log 33 = .ok (.imul, 1) := by decide +kernel
theorem dX11_log_34 : decode cX11_log 34 = .ok (.iaload, 1) := by decide +kernel
theorem dX11_log_35 : decode cX11_log 35 = .ok (.ireturn, 1) := by decide +kernel
theorem dX11_count_0 : decode cX11_count 0 = .ok (.iload_n 1, 1) := by decide +kernel
theorem dX11_count_1 : decode cX11_count 1 = .ok (.tableswitch 66 0 4 #[35, 43, 48, 53, 58], 35) := by decide +kernel
theorem dX11_count_36 : decode cX11_count 36 = .ok (.aload_n 0, 1) := by decide +kernel
theorem dX11_count_37 : decode cX11_count 37 = .ok (.getfield 10, 3) := by decide +kernel
theorem dX11_count_40 : decode cX11_count 40 = .ok (.invokevirtual 61, 3) := by decide +kernel
theorem dX11_count_43 : decode cX11_count 43 = .ok (.ireturn, 1) := by decide +kernel
theorem dX11_count_44 : decode cX11_count 44 = .ok (.aload_n 0, 1) := by decide +kernel
theorem dX11_count_45 : decode cX11_count 45 = .ok (.getfield 210, 3) := by decide +kernel
theorem dX11_count_48 : decode cX11_count 48 = .ok (.ireturn, 1) := by decide +kernel
theorem dX11_count_49 : decode cX11_count 49 = .ok (.aload_n 0, 1) := by decide +kernel
theorem dX11_count_50 : decode cX11_count 50 = .ok (.getfield 206, 3) := by decide +kernel
theorem dX11_count_53 : decode cX11_count 53 = .ok (.ireturn, 1) := by decide +kernel
theorem dX11_count_54 : decode cX11_count 54 = .ok (.aload_n 0, 1) := by decide +kernel
theorem dX11_count_55 : decode cX11_count 55 = .ok (.getfield 135, 3) := by decide +kernel
theorem dX11_count_58 : decode cX11_count 58 = .ok (.ireturn, 1) := by decide +kernel
theorem dX11_count_59 : decode cX11_count 59 = .ok (.aload_n 0, 1) := by decide +kernel
theorem dX11_count_60 : decode cX11_count 60 = .ok (.getfield 16, 3) := by decide +kernel
theorem dX11_count_63 : decode cX11_count 63 = .ok (.invokevirtual 61, 3) := by decide +kernel
theorem dX11_count_66 : decode cX11_count 66 = .ok (.ireturn, 1) := by decide +kernel
theorem dX11_count_67 : decode cX11_count 67 = .ok (.new 213, 3) := by decide +kernel
theorem dX11_count_70 : decode cX11_count 70 = .ok (.dup, 1) := by decide +kernel
theorem dX11_count_71 : decode cX11_count 71 = .ok (.ldc 215, 2) := by decide +kernel
theorem dX11_count_73 : decode cX11_count 73 = .ok (.invokespecial 217, 3) := by decide +kernel
theorem dX11_count_76 : decode cX11_count 76 = .ok (.athrow, 1) := by decide +kernel
theorem dX11_requireRange_0 : decode cX11_requireRange 0 = .ok (.iload_n 1, 1) := by decide +kernel
theorem dX11_requireRange_1 : decode cX11_requireRange 1 = .ok (.iload_n 2, 1) := by decide +kernel
theorem dX11_requireRange_2 : decode cX11_requireRange 2 = .ok (.if_icmp .lt 8, 3) := by decide +kernel
theorem dX11_requireRange_5 : decode cX11_requireRange 5 = .ok (.iload_n 1, 1) := by decide +kernel
theorem dX11_requireRange_6 : decode cX11_requireRange 6 = .ok (.iload_n 3, 1) := by decide +kernel
theorem dX11_requireRange_7 : decode cX11_requireRange 7 = .ok (.if_icmp .le 13, 3) := by decide +kernel
theorem dX11_requireRange_10 : decode cX11_requireRange 10 = .ok (.new 213, 3) := by decide +kernel
theorem dX11_requireRange_13 : decode cX11_requireRange 13 = .ok (.dup, 1) := by decide +kernel
theorem dX11_requireRange_14 : decode cX11_requireRange 14 = .ok (.ldc 218, 2) := by decide +kernel
theorem dX11_requireRange_16 : decode cX11_requireRange 16 = .ok (.invokespecial 217, 3) := by decide +kernel
theorem dX11_requireRange_19 : decode cX11_requireRange 19 = .ok (.athrow, 1) := by decide +kernel
theorem dX11_requireRange_20 : decode cX11_requireRange 20 = .ok (.return_, 1) := by decide +kernel
theorem dX11_requireValue_0 : decode cX11_requireValue 0 = .ok (.iload_n 1, 1) := by decide +kernel
theorem dX11_requireValue_1 : decode cX11_requireValue 1 = .ok (.iconst (-1), 1) := by decide +kernel
theorem dX11_requireValue_2 : decode cX11_requireValue 2 = .ok (.if_icmp .lt 14, 3) := by decide +kernel
theorem dX11_requireValue_5 : decode cX11_requireValue 5 = .ok (.iload_n 1, 1) := by decide +kernel
theorem dX11_requireValue_6 : decode cX11_requireValue 6 = .ok (.sipush 999, 3) := by decide +kernel
theorem dX11_requireValue_9 : decode cX11_requireValue 9 = .ok (.if_icmp .gt 7, 3) := by decide +kernel
theorem dX11_requireValue_12 : decode cX11_requireValue 12 = .ok (.iconst 1, 1) := by decide +kernel
theorem dX11_requireValue_13 : decode cX11_requireValue 13 = .ok (.goto 4, 3) := by decide +kernel
theorem dX11_requireValue_16 : decode cX11_requireValue 16 = .ok (.iconst 0, 1) := by decide +kernel
theorem dX11_requireValue_17 : decode cX11_requireValue 17 = .ok (.istore_n 2, 1) := by decide +kernel
theorem dX11_requireValue_18 : decode cX11_requireValue 18 = .ok (.iload_n 2, 1) := by decide +kernel
theorem dX11_requireValue_19 : decode cX11_requireValue 19 = .ok (.ifCond .ne 21, 3) := by decide +kernel
theorem dX11_requireValue_22 : decode cX11_requireValue 22 = .ok (.aload_n 0, 1) := by decide +kernel
theorem dX11_requireValue_23 : decode cX11_requireValue 23 = .ok (.iload_n 1, 1) := by decide +kernel
theorem dX11_requireValue_24 : decode cX11_requireValue 24 = .ok (.invokevirtual 220, 3) := by decide +kernel
theorem dX11_requireValue_27 : decode cX11_requireValue 27 = .ok (.ifnonnull 13, 3) := by decide +kernel
theorem dX11_requireValue_30 : decode cX11_requireValue 30 = .ok (.new 213, 3) := by decide +kernel
theorem dX11_requireValue_33 : decode cX11_requireValue 33 = .ok (.dup, 1) := by decide +kernel
theorem dX11_requireValue_34 : decode cX11_requireValue 34 = .ok (.ldc 223, 2) := by decide +kernel
theorem dX11_requireValue_36 : decode cX11_requireValue 36 = .ok (.invokespecial 217, 3) := by decide +kernel
theorem dX11_requireValue_39 : decode cX11_requireValue 39 = .ok (.athrow, 1) := by decide +kernel
theorem dX11_requireValue_40 : decode cX11_requireValue 40 = .ok (.return_, 1) := by decide +kernel
theorem dX11_requireThing_0 : decode cX11_requireThing 0 = .ok (.aload_n 0, 1) := by decide +kernel
theorem dX11_requireThing_1 : decode cX11_requireThing 1 = .ok (.iload_n 1, 1) := by decide +kernel
theorem dX11_requireThing_2 : decode cX11_requireThing 2 = .ok (.invokevirtual 220, 3) := by decide +kernel
theorem dX11_requireThing_5 : decode cX11_requireThing 5 = .ok (.astore_n 2, 1) := by decide +kernel
theorem dX11_requireThing_6 : decode cX11_requireThing 6 = .ok (.aload_n 2, 1) := by decide +kernel
theorem dX11_requireThing_7 : decode cX11_requireThing 7 = .ok (.ifnonnull 13, 3) := by decide +kernel
theorem dX11_requireThing_10 : decode cX11_requireThing 10 = .ok (.new 213, 3) := by decide +kernel
theorem dX11_requireThing_13 : decode cX11_requireThing 13 = .ok (.dup, 1) := by decide +kernel
theorem dX11_requireThing_14 : decode cX11_requireThing 14 = .ok (.ldc 225, 2) := by decide +kernel
theorem dX11_requireThing_16 : decode cX11_requireThing 16 = .ok (.invokespecial 217, 3) := by decide +kernel
theorem dX11_requireThing_19 : decode cX11_requireThing 19 = .ok (.athrow, 1) := by decide +kernel
theorem dX11_requireThing_20 : decode cX11_requireThing 20 = .ok (.aload_n 2, 1) := by decide +kernel
theorem dX11_requireThing_21 : decode cX11_requireThing 21 = .ok (.areturn, 1) := by decide +kernel
theorem dX11_requirePromise_0 : decode cX11_requirePromise 0 = .ok (.aload_n 0, 1) := by decide +kernel
theorem dX11_requirePromise_1 : decode cX11_requirePromise 1 = .ok (.iload_n 1, 1) := by decide +kernel
theorem dX11_requirePromise_2 : decode cX11_requirePromise 2 = .ok (.invokevirtual 220, 3) := by decide +kernel
theorem dX11_requirePromise_5 : decode cX11_requirePromise 5 = .ok (.astore_n 3, 1) := by decide +kernel
theorem dX11_requirePromise_6 : decode cX11_requirePromise 6 = .ok (.aload_n 3, 1) := by decide +kernel
theorem dX11_requirePromise_7 : decode cX11_requirePromise 7 = .ok (.instanceof 41, 3) := by decide +kernel
theorem dX11_requirePromise_10 : decode cX11_requirePromise 10 = .ok (.ifCond .eq 10, 3) := by decide +kernel
theorem dX11_requirePromise_13 : decode cX11_requirePromise 13 = .ok (.aload_n 3, 1) := by decide +kernel
theorem dX11_requirePromise_14 : decode cX11_requirePromise 14 = .ok (.checkcast 41, 3) := by decide +kernel
theorem dX11_requirePromise_17 : decode cX11_requirePromise 17 = .ok (.astore_n 2, 1) := by decide +kernel
theorem dX11_requirePromise_18 : decode cX11_requirePromise 18 = .ok (.aload_n 2, 1) := by decide +kernel
theorem dX11_requirePromise_19 : decode cX11_requirePromise 19 = .ok (.areturn, 1) := by decide +kernel
theorem dX11_requirePromise_20 : decode cX11_requirePromise 20 = .ok (.new 213, 3) := by decide +kernel
theorem dX11_requirePromise_23 : decode cX11_requirePromise 23 = .ok (.dup, 1) := by decide +kernel
theorem dX11_requirePromise_24 : decode cX11_requirePromise 24 = .ok (.ldc 227, 2) := by decide +kernel
theorem dX11_requirePromise_26 : decode cX11_requirePromise 26 = .ok (.invokespecial 217, 3) := by decide +kernel
theorem dX11_requirePromise_29 : decode cX11_requirePromise 29 = .ok (.athrow, 1) := by decide +kernel
theorem dX11_requireThenable_0 : decode cX11_requireThenable 0 = .ok (.aload_n 0, 1) := by decide +kernel
theorem dX11_requireThenable_1 : decode cX11_requireThenable 1 = .ok (.iload_n 1, 1) := by decide +kernel
theorem dX11_requireThenable_2 : decode cX11_requireThenable 2 = .ok (.invokevirtual 220, 3) := by decide +kernel
theorem dX11_requireThenable_5 : decode cX11_requireThenable 5 = .ok (.astore_n 3, 1) := by decide +kernel
theorem dX11_requireThenable_6 : decode cX11_requireThenable 6 = .ok (.aload_n 3, 1) := by decide +kernel
theorem dX11_requireThenable_7 : decode cX11_requireThenable 7 = .ok (.instanceof 81, 3) := by decide +kernel
theorem dX11_requireThenable_10 : decode cX11_requireThenable 10 = .ok (.ifCond .eq 10, 3) := by decide +kernel
theorem dX11_requireThenable_13 : decode cX11_requireThenable 13 = .ok (.aload_n 3, 1) := by decide +kernel
theorem dX11_requireThenable_14 : decode cX11_requireThenable 14 = .ok (.checkcast 81, 3) := by decide +kernel
theorem dX11_requireThenable_17 : decode cX11_requireThenable 17 = .ok (.astore_n 2, 1) := by decide +kernel
theorem dX11_requireThenable_18 : decode cX11_requireThenable 18 = .ok (.aload_n 2, 1) := by decide +kernel
theorem dX11_requireThenable_19 : decode cX11_requireThenable 19 = .ok (.areturn, 1) := by decide +kernel
theorem dX11_requireThenable_20 : decode cX11_requireThenable 20 = .ok (.new 213, 3) := by decide +kernel
theorem dX11_requireThenable_23 : decode cX11_requireThenable 23 = .ok (.dup, 1) := by decide +kernel
theorem dX11_requireThenable_24 : decode cX11_requireThenable 24 = .ok (.ldc 229, 2) := by decide +kernel
theorem dX11_requireThenable_26 : decode cX11_requireThenable 26 = .ok (.invokespecial 217, 3) := by decide +kernel
theorem dX11_requireThenable_29 : decode cX11_requireThenable 29 = .ok (.athrow, 1) := by decide +kernel
theorem dX11_requireKept_0 : decode cX11_requireKept 0 = .ok (.aload_n 0, 1) := by decide +kernel
theorem dX11_requireKept_1 : decode cX11_requireKept 1 = .ok (.iload_n 1, 1) := by decide +kernel
theorem dX11_requireKept_2 : decode cX11_requireKept 2 = .ok (.invokevirtual 111, 3) := by decide +kernel
theorem dX11_requireKept_5 : decode cX11_requireKept 5 = .ok (.getfield 40, 3) := by decide +kernel
theorem dX11_requireKept_8 : decode cX11_requireKept 8 = .ok (.astore_n 2, 1) := by decide +kernel
theorem dX11_requireKept_9 : decode cX11_requireKept 9 = .ok (.aload_n 2, 1) := by decide +kernel
theorem dX11_requireKept_10 : decode cX11_requireKept 10 = .ok (.ifnonnull 13, 3) := by decide +kernel
theorem dX11_requireKept_13 : decode cX11_requireKept 13 = .ok (.new 213, 3) := by decide +kernel
theorem dX11_requireKept_16 : decode cX11_requireKept 16 = .ok (.dup, 1) := by decide +kernel
theorem dX11_requireKept_17 : decode cX11_requireKept 17 = .ok (.ldc 231, 2) := by decide +kernel
theorem dX11_requireKept_19 : decode cX11_requireKept 19 = .ok (.invokespecial 217, 3) := by decide +kernel
theorem dX11_requireKept_22 : decode cX11_requireKept 22 = .ok (.athrow, 1) := by decide +kernel
theorem dX11_requireKept_23 : decode cX11_requireKept 23 = .ok (.aload_n 2, 1) := by decide +kernel
theorem dX11_requireKept_24 : decode cX11_requireKept 24 = .ok (.areturn, 1) := by decide +kernel
theorem dX11_requireHandler_0 : decode cX11_requireHandler 0 = .ok (.iload_n 1, 1) := by decide +kernel
theorem dX11_requireHandler_1 : decode cX11_requireHandler 1 = .ok (.iconst (-1), 1) := by decide +kernel
theorem dX11_requireHandler_2 : decode cX11_requireHandler 2 = .ok (.if_icmp .ne 5, 3) := by decide +kernel
theorem dX11_requireHandler_5 : decode cX11_requireHandler 5 = .ok (.aconst_null, 1) := by decide +kernel
theorem dX11_requireHandler_6 : decode cX11_requireHandler 6 = .ok (.areturn, 1) := by decide +kernel
theorem dX11_requireHandler_7 : decode cX11_requireHandler 7 = .ok (.aload_n 0, 1) := by decide +kernel
theorem dX11_requireHandler_8 : decode cX11_requireHandler 8 = .ok (.iload_n 1, 1) := by decide +kernel
theorem dX11_requireHandler_9 : decode cX11_requireHandler 9 = .ok (.iconst 0, 1) := by decide +kernel
theorem dX11_requireHandler_10 : decode cX11_requireHandler 10 = .ok (.aload_n 0, 1) := by decide +kernel
theorem dX11_requireHandler_11 : decode cX11_requireHandler 11 = .ok (.getfield 16, 3) := by decide +kernel
theorem dX11_requireHandler_14 : decode cX11_requireHandler 14 = .ok (.invokevirtual 61, 3) := by decide +kernel
theorem dX11_requireHandler_17 : decode cX11_requireHandler 17 = .ok (.iconst 1, 1) := by decide +kernel
theorem dX11_requireHandler_18 : decode cX11_requireHandler 18 = .ok (.isub, 1) := by decide +kernel
theorem dX11_requireHandler_19 : decode cX11_requireHandler 19 = .ok (.invokevirtual 50, 3) := by decide +kernel
theorem dX11_requireHandler_22 : decode cX11_requireHandler 22 = .ok (.aload_n 0, 1) := by decide +kernel
theorem dX11_requireHandler_23 : decode cX11_requireHandler 23 = .ok (.getfield 16, 3) := by decide +kernel
theorem dX11_requireHandler_26 : decode cX11_requireHandler 26 = .ok (.iload_n 1, 1) := by decide +kernel
theorem dX11_requireHandler_27 : decode cX11_requireHandler 27 = .ok (.invokevirtual 233, 3) := by decide +kernel
theorem dX11_requireHandler_30 : decode cX11_requireHandler 30 = .ok (.checkcast 72, 3) := by decide +kernel
theorem dX11_requireHandler_33 : decode cX11_requireHandler 33 = .ok (.areturn, 1) := by decide +kernel
theorem dX11_requireParts_0 : decode cX11_requireParts 0 = .ok (.aload_n 0, 1) := by decide +kernel
theorem dX11_requireParts_1 : decode cX11_requireParts 1 = .ok (.iload_n 1, 1) := by decide +kernel
theorem dX11_requireParts_2 : decode cX11_requireParts 2 = .ok (.invokevirtual 193, 3) := by decide +kernel
theorem dX11_requireParts_5 : decode cX11_requireParts 5 = .ok (.getfield 237, 3) := by decide +kernel
theorem dX11_requireParts_8 : decode cX11_requireParts 8 = .ok (.astore_n 2, 1) := by decide +kernel
theorem dX11_requireParts_9 : decode cX11_requireParts 9 = .ok (.aload_n 2, 1) := by decide +kernel
theorem dX11_requireParts_10 : decode cX11_requireParts 10 = .ok (.ifnonnull 13, 3) := by decide +kernel
theorem dX11_requireParts_13 : decode cX11_requireParts 13 = .ok (.new 213, 3) := by decide +kernel
theorem dX11_requireParts_16 : decode cX11_requireParts 16 = .ok (.dup, 1) := by decide +kernel
theorem dX11_requireParts_17 : decode cX11_requireParts 17 = .ok (.ldc 240, 2) := by decide +kernel
theorem dX11_requireParts_19 : decode cX11_requireParts 19 = .ok (.invokespecial 217, 3) := by decide +kernel
theorem dX11_requireParts_22 : decode cX11_requireParts 22 = .ok (.athrow, 1) := by decide +kernel
theorem dX11_requireParts_23 : decode cX11_requireParts 23 = .ok (.aload_n 2, 1) := by decide +kernel
theorem dX11_requireParts_24 : decode cX11_requireParts 24 = .ok (.areturn, 1) := by decide +kernel
theorem dX11_requireRoom_0 : decode cX11_requireRoom 0 = .ok (.sipush 3000, 3) := by decide +kernel
theorem dX11_requireRoom_3 : decode cX11_requireRoom 3 = .ok (.aload_n 0, 1) := by decide +kernel
theorem dX11_requireRoom_4 : decode cX11_requireRoom 4 = .ok (.getfield 10, 3) := by decide +kernel
theorem dX11_requireRoom_7 : decode cX11_requireRoom 7 = .ok (.invokevirtual 61, 3) := by decide +kernel
theorem dX11_requireRoom_10 : decode cX11_requireRoom 10 = .ok (.isub, 1) := by decide +kernel
theorem dX11_requireRoom_11 : decode cX11_requireRoom 11 = .ok (.iload_n 1, 1) := by decide +kernel
theorem dX11_requireRoom_12 : decode cX11_requireRoom 12 = .ok (.if_icmp .ge 13, 3) := by decide +kernel
theorem dX11_requireRoom_15 : decode cX11_requireRoom 15 = .ok (.new 65, 3) := by decide +kernel
theorem dX11_requireRoom_18 : decode cX11_requireRoom 18 = .ok (.dup, 1) := by decide +kernel
theorem dX11_requireRoom_19 : decode cX11_requireRoom 19 = .ok (.ldc 242, 2) := by decide +kernel
theorem dX11_requireRoom_21 : decode cX11_requireRoom 21 = .ok (.invokespecial 69, 3) := by decide +kernel
theorem dX11_requireRoom_24 : decode cX11_requireRoom 24 = .ok (.athrow, 1) := by decide +kernel
theorem dX11_requireRoom_25 : decode cX11_requireRoom 25 = .ok (.return_, 1) := by decide +kernel
theorem dX11_requireRoomInLog_0 : decode cX11_requireRoomInLog 0 = .ok (.aload_n 0, 1) := by decide +kernel
theorem dX11_requireRoomInLog_1 : decode cX11_requireRoomInLog 1 = .ok (.getfield 206, 3) := by decide +kernel
theorem dX11_requireRoomInLog_4 : decode cX11_requireRoomInLog 4 = .ok (.sipush 4000, 3) := by decide +kernel
theorem dX11_requireRoomInLog_7 : decode cX11_requireRoomInLog 7 = .ok (.if_icmp .lt 13, 3) := by decide +kernel
theorem dX11_requireRoomInLog_10 : decode cX11_requireRoomInLog 10 = .ok (.new 65, 3) := by decide +kernel
theorem dX11_requireRoomInLog_13 : decode cX11_requireRoomInLog 13 = .ok (.dup, 1) := by decide +kernel
theorem dX11_requireRoomInLog_14 : decode cX11_requireRoomInLog 14 = .ok (.ldc 244, 2) := by decide +kernel
theorem dX11_requireRoomInLog_16 : decode cX11_requireRoomInLog 16 = .ok (.invokespecial 69, 3) := by decide +kernel
theorem dX11_requireRoomInLog_19 : decode cX11_requireRoomInLog 19 = .ok (.athrow, 1) := by decide +kernel
theorem dX11_requireRoomInLog_20 : decode cX11_requireRoomInLog 20 = .ok (.return_, 1) := by decide +kernel
theorem dX11_thingOf_0 : decode cX11_thingOf 0 = .ok (.iload_n 1, 1) := by decide +kernel
theorem dX11_thingOf_1 : decode cX11_thingOf 1 = .ok (.bipush (-2), 2) := by decide +kernel
theorem dX11_thingOf_3 : decode cX11_thingOf 3 = .ok (.if_icmp .le 5, 3) := by decide +kernel
theorem dX11_thingOf_6 : decode cX11_thingOf 6 = .ok (.aconst_null, 1) := by decide +kernel
theorem dX11_thingOf_7 : decode cX11_thingOf 7 = .ok (.areturn, 1) := by decide +kernel
theorem dX11_thingOf_8 : decode cX11_thingOf 8 = .ok (.bipush (-2), 2) := by decide +kernel
theorem dX11_thingOf_10 : decode cX11_thingOf 10 = .ok (.iload_n 1, 1) := by decide +kernel
theorem dX11_thingOf_11 : decode cX11_thingOf 11 = .ok (.isub, 1) := by decide +kernel
theorem dX11_thingOf_12 : decode cX11_thingOf 12 = .ok (.istore_n 2, 1) := by decide +kernel
theorem dX11_thingOf_13 : decode cX11_thingOf 13 = .ok (.iload_n 2, 1) := by decide +kernel
theorem dX11_thingOf_14 : decode cX11_thingOf 14 = .ok (.aload_n 0, 1) := by decide +kernel
theorem dX11_thingOf_15 : decode cX11_thingOf 15 = .ok (.getfield 10, 3) := by decide +kernel
theorem dX11_thingOf_18 : decode cX11_thingOf 18 = .ok (.invokevirtual 61, 3) := by decide +kernel
theorem dX11_thingOf_21 : decode cX11_thingOf 21 = .ok (.if_icmp .ge 17, 3) := by decide +kernel
theorem dX11_thingOf_24 : decode cX11_thingOf 24 = .ok (.aload_n 0, 1) := by decide +kernel
theorem dX11_thingOf_25 : decode cX11_thingOf 25 = .ok (.getfield 10, 3) := by decide +kernel
theorem dX11_thingOf_28 : decode cX11_thingOf 28 = .ok (.iload_n 2, 1) := by decide +kernel
theorem dX11_thingOf_29 : decode cX11_thingOf 29 = .ok (.invokevirtual 233, 3) := by decide +kernel
theorem dX11_thingOf_32 : decode cX11_thingOf 32 = .ok (.checkcast 198, 3) := by decide +kernel
theorem dX11_thingOf_35 : decode cX11_thingOf 35 = .ok (.goto 4, 3) := by decide +kernel
theorem dX11_thingOf_38 : decode cX11_thingOf 38 = .ok (.aconst_null, 1) := by decide +kernel
theorem dX11_thingOf_39 : decode cX11_thingOf 39 = .ok (.areturn, 1) := by decide +kernel
theorem dX11_nextValue_0 : decode cX11_nextValue 0 = .ok (.bipush (-2), 2) := by decide +kernel
theorem dX11_nextValue_2 : decode cX11_nextValue 2 = .ok (.aload_n 0, 1) := by decide +kernel
theorem dX11_nextValue_3 : decode cX11_nextValue 3 = .ok (.getfield 10, 3) := by decide +kernel
theorem dX11_nextValue_6 : decode cX11_nextValue 6 = .ok (.invokevirtual 61, 3) := by decide +kernel
theorem dX11_nextValue_9 : decode cX11_nextValue 9 = .ok (.isub, 1) := by decide +kernel
theorem dX11_nextValue_10 : decode cX11_nextValue 10 = .ok (.ireturn, 1) := by decide +kernel
theorem dX11_newThing_0 : decode cX11_newThing 0 = .ok (.new 198, 3) := by decide +kernel
theorem dX11_newThing_3 : decode cX11_newThing 3 = .ok (.dup, 1) := by decide +kernel
theorem dX11_newThing_4 : decode cX11_newThing 4 = .ok (.aload_n 0, 1) := by decide +kernel
theorem dX11_newThing_5 : decode cX11_newThing 5 = .ok (.invokevirtual 83, 3) := by decide +kernel
theorem dX11_newThing_8 : decode cX11_newThing 8 = .ok (.iload_n 1, 1) := by decide +kernel
theorem dX11_newThing_9 : decode cX11_newThing 9 = .ok (.aload_n 2, 1) := by decide +kernel
theorem dX11_newThing_10 : decode cX11_newThing 10 = .ok (.invokespecial 246, 3) := by decide +kernel
theorem dX11_newThing_13 : decode cX11_newThing 13 = .ok (.astore_n 3, 1) := by decide +kernel
theorem dX11_newThing_14 : decode cX11_newThing 14 = .ok (.aload_n 0, 1) := by decide +kernel
theorem dX11_newThing_15 : decode cX11_newThing 15 = .ok (.getfield 10, 3) := by decide +kernel
theorem dX11_newThing_18 : decode cX11_newThing 18 = .ok (.aload_n 3, 1) := by decide +kernel
theorem dX11_newThing_19 : decode cX11_newThing 19 = .ok (.invokevirtual 77, 3) := by decide +kernel
theorem dX11_newThing_22 : decode cX11_newThing 22 = .ok (.pop, 1) := by decide +kernel
theorem dX11_newThing_23 : decode cX11_newThing 23 = .ok (.aload_n 3, 1) := by decide +kernel
theorem dX11_newThing_24 : decode cX11_newThing 24 = .ok (.getfield 249, 3) := by decide +kernel
theorem dX11_newThing_27 : decode cX11_newThing 27 = .ok (.ireturn, 1) := by decide +kernel
theorem dX11_newPromise_0 : decode cX11_newPromise 0 = .ok (.new 41, 3) := by decide +kernel
theorem dX11_newPromise_3 : decode cX11_newPromise 3 = .ok (.dup, 1) := by decide +kernel
theorem dX11_newPromise_4 : decode cX11_newPromise 4 = .ok (.aload_n 0, 1) := by decide +kernel
theorem dX11_newPromise_5 : decode cX11_newPromise 5 = .ok (.invokevirtual 83, 3) := by decide +kernel
theorem dX11_newPromise_8 : decode cX11_newPromise 8 = .ok (.invokespecial 250, 3) := by decide +kernel
theorem dX11_newPromise_11 : decode cX11_newPromise 11 = .ok (.astore_n 1, 1) := by decide +kernel
theorem dX11_newPromise_12 : decode cX11_newPromise 12 = .ok (.aload_n 0, 1) := by decide +kernel
theorem dX11_newPromise_13 : decode cX11_newPromise 13 = .ok (.getfield 10, 3) := by decide +kernel
theorem dX11_newPromise_16 : decode cX11_newPromise 16 = .ok (.aload_n 1, 1) := by decide +kernel
theorem dX11_newPromise_17 : decode cX11_newPromise 17 = .ok (.invokevirtual 77, 3) := by decide +kernel
theorem dX11_newPromise_20 : decode cX11_newPromise 20 = .ok (.pop, 1) := by decide +kernel
theorem dX11_newPromise_21 : decode cX11_newPromise 21 = .ok (.new 35, 3) := by decide +kernel
theorem dX11_newPromise_24 : decode cX11_newPromise 24 = .ok (.dup, 1) := by decide +kernel
theorem dX11_newPromise_25 : decode cX11_newPromise 25 = .ok (.aload_n 1, 1) := by decide +kernel
theorem dX11_newPromise_26 : decode cX11_newPromise 26 = .ok (.invokespecial 252, 3) := by decide +kernel
theorem dX11_newPromise_29 : decode cX11_newPromise 29 = .ok (.areturn, 1) := by decide +kernel
theorem dX11_note_0 : decode cX11_note 0 = .ok (.iconst 2, 1) := by decide +kernel
theorem dX11_note_1 : decode cX11_note 1 = .ok (.aload_n 0, 1) := by decide +kernel
theorem dX11_note_2 : decode cX11_note 2 = .ok (.getfield 206, 3) := by decide +kernel
theorem dX11_note_5 : decode cX11_note 5 = .ok (.imul, 1) := by decide +kernel
theorem dX11_note_6 : decode cX11_note 6 = .ok (.iconst 1, 1) := by decide +kernel
theorem dX11_note_7 : decode cX11_note 7 = .ok (.iadd, 1) := by decide +kernel
theorem dX11_note_8 : decode cX11_note 8 = .ok (.aload_n 0, 1) := by decide +kernel
theorem dX11_note_9 : decode cX11_note 9 = .ok (.getfield 23, 3) := by decide +kernel
theorem dX11_note_12 : decode cX11_note 12 = .ok (.arraylength, 1) := by decide +kernel
theorem dX11_note_13 : decode cX11_note 13 = .ok (.if_icmp .lt 21, 3) := by decide +kernel
theorem dX11_note_16 : decode cX11_note 16 = .ok (.aload_n 0, 1) := by decide +kernel
theorem dX11_note_17 : decode cX11_note 17 = .ok (.aload_n 0, 1) := by decide +kernel
theorem dX11_note_18 : decode cX11_note 18 = .ok (.getfield 23, 3) := by decide +kernel
theorem dX11_note_21 : decode cX11_note 21 = .ok (.iconst 2, 1) := by decide +kernel
theorem dX11_note_22 : decode cX11_note 22 = .ok (.aload_n 0, 1) := by decide +kernel
theorem dX11_note_23 : decode cX11_note 23 = .ok (.getfield 23, 3) := by decide +kernel
theorem dX11_note_26 : decode cX11_note 26 = .ok (.arraylength, 1) := by decide +kernel
theorem dX11_note_27 : decode cX11_note 27 = .ok (.imul, 1) := by decide +kernel
theorem dX11_note_28 : decode cX11_note 28 = .ok (.invokestatic 255, 3) := by decide +kernel
theorem dX11_note_31 : decode cX11_note 31 = .ok (.putfield 23, 3) := by decide +kernel
theorem dX11_note_34 : decode cX11_note 34 = .ok (.aload_n 0, 1) := by decide +kernel
theorem dX11_note_35 : decode cX11_note 35 = .ok (.getfield 23, 3) := by decide +kernel
theorem dX11_note_38 : decode cX11_note 38 = .ok (.iconst 2, 1) := by decide +kernel
theorem dX11_note_39 : decode cX11_note 39 = .ok (.aload_n 0, 1) := by decide +kernel
theorem dX11_note_40 : decode cX11_note 40 = .ok (.getfield 206, 3) := by decide +kernel
theorem dX11_note_43 : decode cX11_note 43 = .ok (.imul, 1) := by decide +kernel
theorem dX11_note_44 : decode cX11_note 44 = .ok (.iload_n 1, 1) := by decide +kernel
theorem dX11_note_45 : decode cX11_note 45 = .ok (.iastore, 1) := by decide +kernel
theorem dX11_note_46 : decode cX11_note 46 = .ok (.aload_n 0, 1) := by decide +kernel
theorem dX11_note_47 : decode cX11_note 47 = .ok (.getfield 23, 3) := by decide +kernel
theorem dX11_note_50 : decode cX11_note 50 = .ok (.iconst 2, 1) := by decide +kernel
theorem dX11_note_51 : decode cX11_note 51 = .ok (.aload_n 0, 1) := by decide +kernel
theorem dX11_note_52 : decode cX11_note 52 = .ok (.getfield 206, 3) := by decide +kernel
theorem dX11_note_55 : decode cX11_note 55 = .ok (.imul, 1) := by decide +kernel
theorem dX11_note_56 : decode cX11_note 56 = .ok (.iconst 1, 1) := by decide +kernel
theorem dX11_note_57 : decode cX11_note 57 = .ok (.iadd, 1) := by decide +kernel
theorem dX11_note_58 : decode cX11_note 58 = .ok (.iload_n 2, 1) := by decide +kernel
theorem dX11_note_59 : decode cX11_note 59 = .ok (.iastore, 1) := by decide +kernel
theorem dX11_note_60 : decode cX11_note 60 = .ok (.aload_n 0, 1) := by decide +kernel
theorem dX11_note_61 : decode cX11_note 61 = .ok (.dup, 1) := by decide +kernel
theorem dX11_note_62 : decode cX11_note 62 = .ok (.getfield 206, 3) := by decide +kernel
theorem dX11_note_65 : decode cX11_note 65 = .ok (.iconst 1, 1) := by decide +kernel
theorem dX11_note_66 : decode cX11_note 66 = .ok (.iadd, 1) := by decide +kernel
theorem dX11_note_67 : decode cX11_note 67 = .ok (.putfield 206, 3) := by decide +kernel
theorem dX11_note_70 : decode cX11_note 70 = .ok (.return_, 1) := by decide +kernel
theorem dX11_takeList_0 : decode cX11_takeList 0 = .ok (.aload_n 0, 1) := by decide +kernel
theorem dX11_takeList_1 : decode cX11_takeList 1 = .ok (.getfield 19, 3) := by decide +kernel
theorem dX11_takeList_4 : decode cX11_takeList 4 = .ok (.aload_n 0, 1) := by decide +kernel
theorem dX11_takeList_5 : decode cX11_takeList 5 = .ok (.getfield 135, 3) := by decide +kernel
theorem dX11_takeList_8 : decode cX11_takeList 8 = .ok (.invokestatic 255, 3) := by decide +kernel
theorem dX11_takeList_11 : decode cX11_takeList 11 = .ok (.astore_n 1, 1) := by decide +kernel
theorem dX11_takeList_12 : decode cX11_takeList 12 = .ok (.aload_n 0, 1) := by decide +kernel
theorem dX11_takeList_13 : decode cX11_takeList 13 = .ok (.iconst 0, 1) := by decide +kernel
theorem dX11_takeList_14 : decode cX11_takeList 14 = .ok (.putfield 135, 3) := by decide +kernel
theorem dX11_takeList_17 : decode cX11_takeList 17 = .ok (.aload_n 1, 1) := by decide +kernel
theorem dX11_takeList_18 : decode cX11_takeList 18 = .ok (.areturn, 1) := by decide +kernel
theorem dX11_enqueue_0 : decode cX11_enqueue 0 = .ok (.aload_n 0, 1) := by decide +kernel
theorem dX11_enqueue_1 : decode cX11_enqueue 1 = .ok (.getfield 261, 3) := by decide +kernel
theorem dX11_enqueue_4 : decode cX11_enqueue 4 = .ok (.ifnonnull 11, 3) := by decide +kernel
theorem dX11_enqueue_7 : decode cX11_enqueue 7 = .ok (.aload_n 0, 1) := by decide +kernel
theorem dX11_enqueue_8 : decode cX11_enqueue 8 = .ok (.aload_n 1, 1) := by decide +kernel
theorem dX11_enqueue_9 : decode cX11_enqueue 9 = .ok (.putfield 169, 3) := by decide +kernel
theorem dX11_enqueue_12 : decode cX11_enqueue 12 = .ok (.goto 11, 3) := by decide +kernel
theorem dX11_enqueue_15 : decode cX11_enqueue 15 = .ok (.aload_n 0, 1) := by decide +kernel
theorem dX11_enqueue_16 : decode cX11_enqueue 16 = .ok (.getfield 261, 3) := by decide +kernel
theorem dX11_enqueue_19 : decode cX11_enqueue 19 = .ok (.aload_n 1, 1) := by decide +kernel
theorem dX11_enqueue_20 : decode cX11_enqueue 20 = .ok (.putfield 264, 3) := by decide +kernel
theorem dX11_enqueue_23 : decode cX11_enqueue 23 = .ok (.aload_n 0, 1) := by decide +kernel
theorem dX11_enqueue_24 : decode cX11_enqueue 24 = .ok (.aload_n 1, 1) := by decide +kernel
theorem dX11_enqueue_25 : decode cX11_enqueue 25 = .ok (.putfield 261, 3) := by decide +kernel
theorem dX11_enqueue_28 : decode cX11_enqueue 28 = .ok (.aload_n 0, 1) := by decide +kernel
theorem dX11_enqueue_29 : decode cX11_enqueue 29 = .ok (.dup, 1) := by decide +kernel
theorem dX11_enqueue_30 : decode cX11_enqueue 30 = .ok (.getfield 210, 3) := by decide +kernel
theorem dX11_enqueue_33 : decode cX11_enqueue 33 = .ok (.iconst 1, 1) := by decide +kernel
theorem dX11_enqueue_34 : decode cX11_enqueue 34 = .ok (.iadd, 1) := by decide +kernel
theorem dX11_enqueue_35 : decode cX11_enqueue 35 = .ok (.putfield 210, 3) := by decide +kernel
theorem dX11_enqueue_38 : decode cX11_enqueue 38 = .ok (.return_, 1) := by decide +kernel
theorem dX11_dequeue_0 : decode cX11_dequeue 0 = .ok (.aload_n 0, 1) := by decide +kernel
theorem dX11_dequeue_1 : decode cX11_dequeue 1 = .ok (.aload_n 1, 1) := by decide +kernel
theorem dX11_dequeue_2 : decode cX11_dequeue 2 = .ok (.getfield 264, 3) := by decide +kernel
theorem dX11_dequeue_5 : decode cX11_dequeue 5 = .ok (.putfield 169, 3) := by decide +kernel
theorem dX11_dequeue_8 : decode cX11_dequeue 8 = .ok (.aload_n 0, 1) := by decide +kernel
theorem dX11_dequeue_9 : decode cX11_dequeue 9 = .ok (.getfield 169, 3) := by decide +kernel
theorem dX11_dequeue_12 : decode cX11_dequeue 12 = .ok (.ifnonnull 8, 3) := by decide +kernel
theorem dX11_dequeue_15 : decode cX11_dequeue 15 = .ok (.aload_n 0, 1) := by decide +kernel
theorem dX11_dequeue_16 : decode cX11_dequeue 16 = .ok (.aconst_null, 1) := by decide +kernel
theorem dX11_dequeue_17 : decode cX11_dequeue 17 = .ok (.putfield 261, 3) := by decide +kernel
theorem dX11_dequeue_20 : decode cX11_dequeue 20 = .ok (.aload_n 0, 1) := by decide +kernel
theorem dX11_dequeue_21 : decode cX11_dequeue 21 = .ok (.dup, 1) := by decide +kernel
theorem dX11_dequeue_22 : decode cX11_dequeue 22 = .ok (.getfield 210, 3) := by decide +kernel
theorem dX11_dequeue_25 : decode cX11_dequeue 25 = .ok (.iconst 1, 1) := by decide +kernel
theorem dX11_dequeue_26 : decode cX11_dequeue 26 = .ok (.isub, 1) := by decide +kernel
theorem dX11_dequeue_27 : decode cX11_dequeue 27 = .ok (.putfield 210, 3) := by decide +kernel
theorem dX11_dequeue_30 : decode cX11_dequeue 30 = .ok (.return_, 1) := by decide +kernel
theorem dX11_callOneOf_0 : decode cX11_callOneOf 0 = .ok (.aload_n 1, 1) := by decide +kernel
theorem dX11_callOneOf_1 : decode cX11_callOneOf 1 = .ok (.getfield 269, 3) := by decide +kernel
theorem dX11_callOneOf_4 : decode cX11_callOneOf 4 = .ok (.ifCond .ne 7, 3) := by decide +kernel
theorem dX11_callOneOf_7 : decode cX11_callOneOf 7 = .ok (.iconst 1, 1) := by decide +kernel
theorem dX11_callOneOf_8 : decode cX11_callOneOf 8 = .ok (.goto 4, 3) := by decide +kernel
theorem dX11_callOneOf_11 : decode cX11_callOneOf 11 = .ok (.iconst 0, 1) := by decide +kernel
theorem dX11_callOneOf_12 : decode cX11_callOneOf 12 = .ok (.istore 4, 2) := by decide +kernel
theorem dX11_callOneOf_14 : decode cX11_callOneOf 14 = .ok (.iload_n 2, 1) := by decide +kernel
theorem dX11_callOneOf_15 : decode cX11_callOneOf 15 = .ok (.ifCond .eq 12, 3) := by decide +kernel
theorem dX11_callOneOf_18 : decode cX11_callOneOf 18 = .ok (.aload_n 0, 1) := by decide +kernel
theorem dX11_callOneOf_19 : decode cX11_callOneOf 19 = .ok (.aload_n 1, 1) := by decide +kernel
theorem dX11_callOneOf_20 : decode cX11_callOneOf 20 = .ok (.iload_n 3, 1) := by decide +kernel
theorem dX11_callOneOf_21 : decode cX11_callOneOf 21 = .ok (.invokevirtual 131, 3) := by decide +kernel
theorem dX11_callOneOf_24 : decode cX11_callOneOf 24 = .ok (.goto 9, 3) := by decide +kernel
theorem dX11_callOneOf_27 : decode cX11_callOneOf 27 = .ok (.aload_n 0, 1) := by decide +kernel
theorem dX11_callOneOf_28 : decode cX11_callOneOf 28 = .ok (.aload_n 1, 1) := by decide +kernel
theorem dX11_callOneOf_29 : decode cX11_callOneOf 29 = .ok (.iload_n 3, 1) := by decide +kernel
theorem dX11_callOneOf_30 : decode cX11_callOneOf 30 = .ok (.invokevirtual 272, 3) := by decide +kernel
theorem dX11_callOneOf_33 : decode cX11_callOneOf 33 = .ok (.iload 4, 2) := by decide +kernel
theorem dX11_callOneOf_35 : decode cX11_callOneOf 35 = .ok (.ireturn, 1) := by decide +kernel
theorem dX11_resolve_0 : decode cX11_resolve 0 = .ok (.aload_n 1, 1) := by decide +kernel
theorem dX11_resolve_1 : decode cX11_resolve 1 = .ok (.ifnull 10, 3) := by decide +kernel
theorem dX11_resolve_4 : decode cX11_resolve 4 = .ok (.aload_n 1, 1) := by decide +kernel
theorem dX11_resolve_5 : decode cX11_resolve 5 = .ok (.getfield 269, 3) := by decide +kernel
theorem dX11_resolve_8 : decode cX11_resolve 8 = .ok (.ifCond .eq 4, 3) := by decide +kernel
theorem dX11_resolve_11 : decode cX11_resolve 11 = .ok (.return_, 1) := by decide +kernel
theorem dX11_resolve_12 : decode cX11_resolve 12 = .ok (.aload_n 1, 1) := by decide +kernel
theorem dX11_resolve_13 : decode cX11_resolve 13 = .ok (.iconst 1, 1) := by decide +kernel
theorem dX11_resolve_14 : decode cX11_resolve 14 = .ok (.putfield 269, 3) := by decide +kernel
theorem dX11_resolve_17 : decode cX11_resolve 17 = .ok (.aload_n 1, 1) := by decide +kernel
theorem dX11_resolve_18 : decode cX11_resolve 18 = .ok (.getfield 34, 3) := by decide +kernel
theorem dX11_resolve_21 : decode cX11_resolve 21 = .ok (.astore_n 3, 1) := by decide +kernel
theorem dX11_resolve_22 : decode cX11_resolve 22 = .ok (.aload_n 0, 1) := by decide +kernel
theorem dX11_resolve_23 : decode cX11_resolve 23 = .ok (.iload_n 2, 1) := by decide +kernel
theorem dX11_resolve_24 : decode cX11_resolve 24 = .ok (.invokevirtual 220, 3) := by decide +kernel
theorem dX11_resolve_27 : decode cX11_resolve 27 = .ok (.astore 4, 2) := by decide +kernel
theorem dX11_resolve_29 : decode cX11_resolve 29 = .ok (.iload_n 2, 1) := by decide +kernel
theorem dX11_resolve_30 : decode cX11_resolve 30 = .ok (.aload_n 3, 1) := by decide +kernel
theorem dX11_resolve_31 : decode cX11_resolve 31 = .ok (.getfield 46, 3) := by decide +kernel
theorem dX11_resolve_34 : decode cX11_resolve 34 = .ok (.if_icmp .ne 18, 3) := by decide +kernel
theorem dX11_resolve_37 : decode cX11_resolve 37 = .ok (.aload_n 0, 1) := by decide +kernel
theorem dX11_resolve_38 : decode cX11_resolve 38 = .ok (.aload_n 3, 1) := by decide +kernel
theorem dX11_resolve_39 : decode cX11_resolve 39 = .ok (.iconst 2, 1) := by decide +kernel
theorem dX11_resolve_40 : decode cX11_resolve 40 = .ok (.aload_n 0, 1) := by decide +kernel
theorem dX11_resolve_41 : decode cX11_resolve 41 = .ok (.iconst 2, 1) := by decide +kernel
theorem dX11_resolve_42 : decode cX11_resolve 42 = .ok (.aconst_null, 1) := by decide +kernel
theorem dX11_resolve_43 : decode cX11_resolve 43 = .ok (.invokevirtual 275, 3) := by decide +kernel
theorem dX11_resolve_46 : decode cX11_resolve 46 = .ok (.invokevirtual 279, 3) := by decide +kernel
theorem dX11_resolve_49 : decode cX11_resolve 49 = .ok (.goto 70, 3) := by decide +kernel
theorem dX11_resolve_52 : decode cX11_resolve 52 = .ok (.aload 4, 2) := by decide +kernel
theorem dX11_resolve_54 : decode cX11_resolve 54 = .ok (.instanceof 81, 3) := by decide +kernel
theorem dX11_resolve_57 : decode cX11_resolve 57 = .ok (.ifCond .eq 33, 3) := by decide +kernel
theorem dX11_resolve_60 : decode cX11_resolve 60 = .ok (.aload 4, 2) := by decide +kernel
theorem dX11_resolve_62 : decode cX11_resolve 62 = .ok (.checkcast 81, 3) := by decide +kernel
theorem dX11_resolve_65 : decode cX11_resolve 65 = .ok (.astore 5, 2) := by decide +kernel
theorem dX11_resolve_67 : decode cX11_resolve 67 = .ok (.aload 5, 2) := by decide +kernel
theorem dX11_resolve_69 : decode cX11_resolve 69 = .ok (.getfield 283, 3) := by decide +kernel
theorem dX11_resolve_72 : decode cX11_resolve 72 = .ok (.iconst 1, 1) := by decide +kernel
theorem dX11_resolve_73 : decode cX11_resolve 73 = .ok (.if_icmp .ne 17, 3) := by decide +kernel
theorem dX11_resolve_76 : decode cX11_resolve 76 = .ok (.aload_n 0, 1) := by decide +kernel
theorem dX11_resolve_77 : decode cX11_resolve 77 = .ok (.aload_n 3, 1) := by decide +kernel
theorem dX11_resolve_78 : decode cX11_resolve 78 = .ok (.iconst 2, 1) := by decide +kernel
theorem dX11_resolve_79 : decode cX11_resolve 79 = .ok (.aload 5, 2) := by decide +kernel
theorem dX11_resolve_81 : decode cX11_resolve 81 = .ok (.getfield 92, 3) := by decide +kernel
theorem dX11_resolve_84 : decode cX11_resolve 84 = .ok (.invokevirtual 279, 3) := by decide +kernel
theorem dX11_resolve_87 : decode cX11_resolve 87 = .ok (.goto 32, 3) := by decide +kernel
theorem dX11_resolve_90 : decode cX11_resolve 90 = .ok (.aload_n 0, 1) := by decide +kernel
theorem dX11_resolve_91 : decode cX11_resolve 91 = .ok (.aload 4, 2) := by decide +kernel
theorem dX11_resolve_93 : decode cX11_resolve 93 = .ok (.invokevirtual 286, 3) := by decide +kernel
theorem dX11_resolve_96 : decode cX11_resolve 96 = .ok (.ifCond .eq 16, 3) := by decide +kernel
theorem dX11_resolve_99 : decode cX11_resolve 99 = .ok (.aload_n 0, 1) := by decide +kernel
theorem dX11_resolve_100 : decode cX11_resolve 100 = .ok (.aload 4, 2) := by decide +kernel
theorem dX11_resolve_102 : decode cX11_resolve 102 = .ok (.aload_n 3, 1) := by decide +kernel
theorem dX11_resolve_103 : decode cX11_resolve 103 = .ok (.invokestatic 290, 3) := by decide +kernel
theorem dX11_resolve_106 : decode cX11_resolve 106 = .ok (.invokevirtual 294, 3) := by decide +kernel
theorem dX11_resolve_109 : decode cX11_resolve 109 = .ok (.goto 10, 3) := by decide +kernel
theorem dX11_resolve_112 : decode cX11_resolve 112 = .ok (.aload_n 0, 1) := by decide +kernel
theorem dX11_resolve_113 : decode cX11_resolve 113 = .ok (.aload_n 3, 1) := by decide +kernel
theorem dX11_resolve_114 : decode cX11_resolve 114 = .ok (.iconst 1, 1) := by decide +kernel
theorem dX11_resolve_115 : decode cX11_resolve 115 = .ok (.iload_n 2, 1) := by decide +kernel
theorem dX11_resolve_116 : decode cX11_resolve 116 = .ok (.invokevirtual 279, 3) := by decide +kernel
theorem dX11_resolve_119 : decode cX11_resolve 119 = .ok (.return_, 1) := by decide +kernel
theorem dX11_hasThenFunction_0 : decode cX11_hasThenFunction 0 = .ok (.aload_n 1, 1) := by decide +kernel
theorem dX11_hasThenFunction_1 : decode cX11_hasThenFunction 1 = .ok (.instanceof 81, 3) := by decide +kernel
theorem dX11_hasThenFunction_4 : decode cX11_hasThenFunction 4 = .ok (.ifCond .eq 21, 3) := by decide +kernel
theorem dX11_hasThenFunction_7 : decode cX11_hasThenFunction 7 = .ok (.aload_n 1, 1) := by decide +kernel
theorem dX11_hasThenFunction_8 : decode cX11_hasThenFunction 8 = .ok (.checkcast 81, 3) := by decide +kernel
theorem dX11_hasThenFunction_11 : decode cX11_hasThenFunction 11 = .ok (.astore_n 2, 1) := by decide +kernel
theorem dX11_hasThenFunction_12 : decode cX11_hasThenFunction 12 = .ok (.aload_n 2, 1) := by decide +kernel
theorem dX11_hasThenFunction_13 : decode cX11_hasThenFunction 13 = .ok (.getfield 283, 3) := by decide +kernel
theorem dX11_hasThenFunction_16 : decode cX11_hasThenFunction 16 = .ok (.ifCond .ne 7, 3) := by decide +kernel
theorem dX11_hasThenFunction_19 : decode cX11_hasThenFunction 19 = .ok (.iconst 1, 1) := by decide +kernel
theorem dX11_hasThenFunction_20 : decode cX11_hasThenFunction 20 = .ok (.goto 4, 3) := by decide +kernel
theorem dX11_hasThenFunction_23 : decode cX11_hasThenFunction 23 = .ok (.iconst 0, 1) := by decide +kernel
theorem dX11_hasThenFunction_24 : decode cX11_hasThenFunction 24 = .ok (.ireturn, 1) := by decide +kernel
theorem dX11_hasThenFunction_25 : decode cX11_hasThenFunction 25 = .ok (.aload_n 1, 1) := by decide +kernel
theorem dX11_hasThenFunction_26 : decode cX11_hasThenFunction 26 = .ok (.instanceof 41, 3) := by decide +kernel
theorem dX11_hasThenFunction_29 : decode cX11_hasThenFunction 29 = .ok (.ireturn, 1) := by decide +kernel
theorem dX11_reject_0 : decode cX11_reject 0 = .ok (.aload_n 1, 1) := by decide +kernel
theorem dX11_reject_1 : decode cX11_reject 1 = .ok (.ifnull 10, 3) := by decide +kernel
theorem dX11_reject_4 : decode cX11_reject 4 = .ok (.aload_n 1, 1) := by decide +kernel
theorem dX11_reject_5 : decode cX11_reject 5 = .ok (.getfield 269, 3) := by decide +kernel
theorem dX11_reject_8 : decode cX11_reject 8 = .ok (.ifCond .eq 4, 3) := by decide +kernel
theorem dX11_reject_11 : decode cX11_reject 11 = .ok (.return_, 1) := by decide +kernel
theorem dX11_reject_12 : decode cX11_reject 12 = .ok (.aload_n 1, 1) := by decide +kernel
theorem dX11_reject_13 : decode cX11_reject 13 = .ok (.iconst 1, 1) := by decide +kernel
theorem dX11_reject_14 : decode cX11_reject 14 = .ok (.putfield 269, 3) := by decide +kernel
theorem dX11_reject_17 : decode cX11_reject 17 = .ok (.aload_n 0, 1) := by decide +kernel
theorem dX11_reject_18 : decode cX11_reject 18 = .ok (.aload_n 1, 1) := by decide +kernel
theorem dX11_reject_19 : decode cX11_reject 19 = .ok (.getfield 34, 3) := by decide +kernel
theorem dX11_reject_22 : decode cX11_reject 22 = .ok (.iconst 2, 1) := by decide +kernel
theorem dX11_reject_23 : decode cX11_reject 23 = .ok (.iload_n 2, 1) := by decide +kernel
theorem dX11_reject_24 : decode cX11_reject 24 = .ok (.invokevirtual 279, 3) := by decide +kernel
theorem dX11_reject_27 : decode cX11_reject 27 = .ok (.return_, 1) := by decide +kernel
theorem dX11_close_0 : decode cX11_close 0 = .ok (.aload_n 1, 1) := by decide +kernel
theorem dX11_close_1 : decode cX11_close 1 = .ok (.iload_n 2, 1) := by decide +kernel
theorem dX11_close_2 : decode cX11_close 2 = .ok (.putfield 187, 3) := by decide +kernel
theorem dX11_close_5 : decode cX11_close 5 = .ok (.aload_n 1, 1) := by decide +kernel
theorem dX11_close_6 : decode cX11_close 6 = .ok (.iload_n 3, 1) := by decide +kernel
theorem dX11_close_7 : decode cX11_close 7 = .ok (.putfield 190, 3) := by decide +kernel
theorem dX11_close_10 : decode cX11_close 10 = .ok (.aload_n 1, 1) := by decide +kernel
theorem dX11_close_11 : decode cX11_close 11 = .ok (.getfield 297, 3) := by decide +kernel
theorem dX11_close_14 : decode cX11_close 14 = .ok (.astore 4, 2) := by decide +kernel
theorem dX11_close_16 : decode cX11_close 16 = .ok (.aload_n 1, 1) := by decide +kernel
theorem dX11_close_17 : decode cX11_close 17 = .ok (.aconst_null, 1) := by decide +kernel
theorem dX11_close_18 : decode cX11_close 18 = .ok (.putfield 297, 3) := by decide +kernel
theorem dX11_close_21 : decode cX11_close 21 = .ok (.aload_n 1, 1) := by decide +kernel
theorem dX11_close_22 : decode cX11_close 22 = .ok (.aconst_null, 1) := by decide +kernel
theorem dX11_close_23 : decode cX11_close 23 = .ok (.putfield 300, 3) := by decide +kernel
theorem dX11_close_26 : decode cX11_close 26 = .ok (.aload 4, 2) := by decide +kernel
theorem dX11_close_28 : decode cX11_close 28 = .ok (.ifnull 45, 3) := by decide +kernel
theorem dX11_close_31 : decode cX11_close 31 = .ok (.aload 4, 2) := by decide +kernel
theorem dX11_close_33 : decode cX11_close 33 = .ok (.getfield 264, 3) := by decide +kernel
theorem dX11_close_36 : decode cX11_close 36 = .ok (.astore 5, 2) := by decide +kernel
theorem dX11_close_38 : decode cX11_close 38 = .ok (.aload 4, 2) := by decide +kernel
theorem dX11_close_40 : decode cX11_close 40 = .ok (.aconst_null, 1) := by decide +kernel
theorem dX11_close_41 : decode cX11_close 41 = .ok (.putfield 264, 3) := by decide +kernel
theorem dX11_close_44 : decode cX11_close 44 = .ok (.aload 4, 2) := by decide +kernel
theorem dX11_close_46 : decode cX11_close 46 = .ok (.iload_n 2, 1) := by decide +kernel
theorem dX11_close_47 : decode cX11_close 47 = .ok (.iconst 2, 1) := by decide +kernel
theorem dX11_close_48 : decode cX11_close 48 = .ok (.if_icmp .ne 7, 3) := by decide +kernel
theorem dX11_close_51 : decode cX11_close 51 = .ok (.iconst 1, 1) := by decide +kernel
theorem dX11_close_52 : decode cX11_close 52 = .ok (.goto 4, 3) := by decide +kernel
theorem dX11_close_55 : decode cX11_close 55 = .ok (.iconst 0, 1) := by decide +kernel
theorem dX11_close_56 : decode cX11_close 56 = .ok (.iload_n 3, 1) := by decide +kernel
theorem dX11_close_57 : decode cX11_close 57 = .ok (.invokevirtual 303, 3) := by decide +kernel
theorem dX11_close_60 : decode cX11_close 60 = .ok (.aload_n 0, 1) := by decide +kernel
theorem dX11_close_61 : decode cX11_close 61 = .ok (.aload 4, 2) := by decide +kernel
theorem dX11_close_63 : decode cX11_close 63 = .ok (.invokevirtual 294, 3) := by decide +kernel
theorem dX11_close_66 : decode cX11_close 66 = .ok (.aload 5, 2) := by decide +kernel
theorem dX11_close_68 : decode cX11_close 68 = .ok (.astore 4, 2) := by decide +kernel
theorem dX11_close_70 : decode cX11_close 70 = .ok (.goto (-44), 3) := by decide +kernel
theorem dX11_close_73 : decode cX11_close 73 = .ok (.return_, 1) := by decide +kernel
theorem dX11_promiseFor_0 : decode cX11_promiseFor 0 = .ok (.aload_n 0, 1) := by decide +kernel
theorem dX11_promiseFor_1 : decode cX11_promiseFor 1 = .ok (.iload_n 1, 1) := by decide +kernel
theorem dX11_promiseFor_2 : decode cX11_promiseFor 2 = .ok (.invokevirtual 220, 3) := by decide +kernel
theorem dX11_promiseFor_5 : decode cX11_promiseFor 5 = .ok (.astore_n 3, 1) := by decide +kernel
theorem dX11_promiseFor_6 : decode cX11_promiseFor 6 = .ok (.aload_n 3, 1) := by decide +kernel
theorem dX11_promiseFor_7 : decode cX11_promiseFor 7 = .ok (.instanceof 41, 3) := by decide +kernel
theorem dX11_promiseFor_10 : decode cX11_promiseFor 10 = .ok (.ifCond .eq 10, 3) := by decide +kernel
theorem dX11_promiseFor_13 : decode cX11_promiseFor 13 = .ok (.aload_n 3, 1) := by decide +kernel
theorem dX11_promiseFor_14 : decode cX11_promiseFor 14 = .ok (.checkcast 41, 3) := by decide +kernel
theorem dX11_promiseFor_17 : decode cX11_promiseFor 17 = .ok (.astore_n 2, 1) := by decide +kernel
theorem dX11_promiseFor_18 : decode cX11_promiseFor 18 = .ok (.aload_n 2, 1) := by decide +kernel
theorem dX11_promiseFor_19 : decode cX11_promiseFor 19 = .ok (.areturn, 1) := by decide +kernel
theorem dX11_promiseFor_20 : decode cX11_promiseFor 20 = .ok (.aload_n 0, 1) := by decide +kernel
theorem dX11_promiseFor_21 : decode cX11_promiseFor 21 = .ok (.invokevirtual 30, 3) := by decide +kernel
theorem dX11_promiseFor_24 : decode cX11_promiseFor 24 = .ok (.astore_n 2, 1) := by decide +kernel
theorem dX11_promiseFor_25 : decode cX11_promiseFor 25 = .ok (.aload_n 0, 1) := by decide +kernel
theorem dX11_promiseFor_26 : decode cX11_promiseFor 26 = .ok (.aload_n 2, 1) := by decide +kernel
theorem dX11_promiseFor_27 : decode cX11_promiseFor 27 = .ok (.iload_n 1, 1) := by decide +kernel
theorem dX11_promiseFor_28 : decode cX11_promiseFor 28 = .ok (.invokevirtual 272, 3) := by decide +kernel
theorem dX11_promiseFor_31 : decode cX11_promiseFor 31 = .ok (.aload_n 2, 1) := by decide +kernel
theorem dX11_promiseFor_32 : decode cX11_promiseFor 32 = .ok (.getfield 34, 3) := by decide +kernel
theorem dX11_promiseFor_35 : decode cX11_promiseFor 35 = .ok (.areturn, 1) := by decide +kernel
theorem dX11_derive_0 : decode cX11_derive 0 = .ok (.aload_n 0, 1) := by decide +kernel
theorem dX11_derive_1 : decode cX11_derive 1 = .ok (.invokevirtual 30, 3) := by decide +kernel
theorem dX11_derive_4 : decode cX11_derive 4 = .ok (.astore 4, 2) := by decide +kernel
theorem dX11_derive_6 : decode cX11_derive 6 = .ok (.aload_n 0, 1) := by decide +kernel
theorem dX11_derive_7 : decode cX11_derive 7 = .ok (.aload_n 1, 1) := by decide +kernel
theorem dX11_derive_8 : decode cX11_derive 8 = .ok (.aload_n 2, 1) := by decide +kernel
theorem dX11_derive_9 : decode cX11_derive 9 = .ok (.aload_n 3, 1) := by decide +kernel
theorem dX11_derive_10 : decode cX11_derive 10 = .ok (.aload 4, 2) := by decide +kernel
theorem dX11_derive_12 : decode cX11_derive 12 = .ok (.invokestatic 307, 3) := by decide +kernel
theorem dX11_derive_15 : decode cX11_derive 15 = .ok (.invokevirtual 311, 3) := by decide +kernel
theorem dX11_derive_18 : decode cX11_derive 18 = .ok (.aload 4, 2) := by decide +kernel
theorem dX11_derive_20 : decode cX11_derive 20 = .ok (.getfield 34, 3) := by decide +kernel
theorem dX11_derive_23 : decode cX11_derive 23 = .ok (.getfield 46, 3) := by decide +kernel
theorem dX11_derive_26 : decode cX11_derive 26 = .ok (.ireturn, 1) := by decide +kernel
theorem dX11_attach_0 : decode cX11_attach 0 = .ok (.aload_n 1, 1) := by decide +kernel
theorem dX11_attach_1 : decode cX11_attach 1 = .ok (.iconst 1, 1) := by decide +kernel
theorem dX11_attach_2 : decode cX11_attach 2 = .ok (.putfield 183, 3) := by decide +kernel
theorem dX11_attach_5 : decode cX11_attach 5 = .ok (.aload_n 1, 1) := by decide +kernel
theorem dX11_attach_6 : decode cX11_attach 6 = .ok (.getfield 187, 3) := by decide +kernel
theorem dX11_attach_9 : decode cX11_attach 9 = .ok (.ifCond .eq 30, 3) := by decide +kernel
theorem dX11_attach_12 : decode cX11_attach 12 = .ok (.aload_n 2, 1) := by decide +kernel
theorem dX11_attach_13 : decode cX11_attach 13 = .ok (.aload_n 1, 1) := by decide +kernel
theorem dX11_attach_14 : decode cX11_attach 14 = .ok (.getfield 187, 3) := by decide +kernel
theorem dX11_attach_17 : decode cX11_attach 17 = .ok (.iconst 2, 1) := by decide +kernel
theorem dX11_attach_18 : decode cX11_attach 18 = .ok (.if_icmp .ne 7, 3) := by decide +kernel
theorem dX11_attach_21 : decode cX11_attach 21 = .ok (.iconst 1, 1) := by decide +kernel
theorem dX11_attach_22 : decode cX11_attach 22 = .ok (.goto 4, 3) := by decide +kernel
theorem dX11_attach_25 : decode cX11_attach 25 = .ok (.iconst 0, 1) := by decide +kernel
theorem dX11_attach_26 : decode cX11_attach 26 = .ok (.aload_n 1, 1) := by decide +kernel
theorem dX11_attach_27 : decode cX11_attach 27 = .ok (.getfield 190, 3) := by decide +kernel
theorem dX11_attach_30 : decode cX11_attach 30 = .ok (.invokevirtual 303, 3) := by decide +kernel
theorem dX11_attach_33 : decode cX11_attach 33 = .ok (.aload_n 0, 1) := by decide +kernel
theorem dX11_attach_34 : decode cX11_attach 34 = .ok (.aload_n 2, 1) := by decide +kernel
theorem dX11_attach_35 : decode cX11_attach 35 = .ok (.invokevirtual 294, 3) := by decide +kernel
theorem dX11_attach_38 : decode cX11_attach 38 = .ok (.return_, 1) := by decide +kernel
theorem dX11_attach_39 : decode cX11_attach 39 = .ok (.aload_n 1, 1) := by decide +kernel
theorem dX11_attach_40 : decode cX11_attach 40 = .ok (.getfield 300, 3) := by decide +kernel
theorem dX11_attach_43 : decode cX11_attach 43 = .ok (.ifnonnull 11, 3) := by decide +kernel
theorem dX11_attach_46 : decode cX11_attach 46 = .ok (.aload_n 1, 1) := by decide +kernel
theorem dX11_attach_47 : decode cX11_attach 47 = .ok (.aload_n 2, 1) := by decide +kernel
theorem dX11_attach_48 : decode cX11_attach 48 = .ok (.putfield 297, 3) := by decide +kernel
theorem dX11_attach_51 : decode cX11_attach 51 = .ok (.goto 11, 3) := by decide +kernel
theorem dX11_attach_54 : decode cX11_attach 54 = .ok (.aload_n 1, 1) := by decide +kernel
theorem dX11_attach_55 : decode cX11_attach 55 = .ok (.getfield 300, 3) := by decide +kernel
theorem dX11_attach_58 : decode cX11_attach 58 = .ok (.aload_n 2, 1) := by decide +kernel
theorem dX11_attach_59 : decode cX11_attach 59 = .ok (.putfield 264, 3) := by decide +kernel
theorem dX11_attach_62 : decode cX11_attach 62 = .ok (.aload_n 1, 1) := by decide +kernel
theorem dX11_attach_63 : decode cX11_attach 63 = .ok (.aload_n 2, 1) := by decide +kernel
theorem dX11_attach_64 : decode cX11_attach 64 = .ok (.putfield 300, 3) := by decide +kernel
theorem dX11_attach_67 : decode cX11_attach 67 = .ok (.return_, 1) := by decide +kernel
theorem dX11_doJob_0 : decode cX11_doJob 0 = .ok (.aload_n 1, 1) := by decide +kernel
theorem dX11_doJob_1 : decode cX11_doJob 1 = .ok (.getfield 315, 3) := by decide +kernel
theorem dX11_doJob_4 : decode cX11_doJob 4 = .ok (.ifnull 26, 3) := by decide +kernel
theorem dX11_doJob_7 : decode cX11_doJob 7 = .ok (.aload_n 0, 1) := by decide +kernel
theorem dX11_doJob_8 : decode cX11_doJob 8 = .ok (.aload_n 1, 1) := by decide +kernel
theorem dX11_doJob_9 : decode cX11_doJob 9 = .ok (.getfield 315, 3) := by decide +kernel
theorem dX11_doJob_12 : decode cX11_doJob 12 = .ok (.aload_n 1, 1) := by decide +kernel
theorem dX11_doJob_13 : decode cX11_doJob 13 = .ok (.invokevirtual 319, 3) := by decide +kernel
theorem dX11_doJob_16 : decode cX11_doJob 16 = .ok (.ifCond .eq 151, 3) := by decide +kernel
theorem dX11_doJob_19 : decode cX11_doJob 19 = .ok (.aload_n 0, 1) := by decide +kernel
theorem dX11_doJob_20 : decode cX11_doJob 20 = .ok (.aload_n 1, 1) := by decide +kernel
theorem dX11_doJob_21 : decode cX11_doJob 21 = .ok (.getfield 315, 3) := by decide +kernel
theorem dX11_doJob_24 : decode cX11_doJob 24 = .ok (.invokevirtual 165, 3) := by decide +kernel
theorem dX11_doJob_27 : decode cX11_doJob 27 = .ok (.goto 140, 3) := by decide +kernel
theorem dX11_doJob_30 : decode cX11_doJob 30 = .ok (.aload_n 1, 1) := by decide +kernel
theorem dX11_doJob_31 : decode cX11_doJob 31 = .ok (.getfield 323, 3) := by decide +kernel
theorem dX11_doJob_34 : decode cX11_doJob 34 = .ok (.astore 4, 2) := by decide +kernel
theorem dX11_doJob_36 : decode cX11_doJob 36 = .ok (.aload 4, 2) := by decide +kernel
theorem dX11_doJob_38 : decode cX11_doJob 38 = .ok (.instanceof 41, 3) := by decide +kernel
theorem dX11_doJob_41 : decode cX11_doJob 41 = .ok (.ifCond .eq 32, 3) := by decide +kernel
theorem dX11_doJob_44 : decode cX11_doJob 44 = .ok (.aload 4, 2) := by decide +kernel
theorem dX11_doJob_46 : decode cX11_doJob 46 = .ok (.checkcast 41, 3) := by decide +kernel
theorem dX11_doJob_49 : decode cX11_doJob 49 = .ok (.astore_n 2, 1) := by decide +kernel
theorem dX11_doJob_50 : decode cX11_doJob 50 = .ok (.aload_n 0, 1) := by decide +kernel
theorem dX11_doJob_51 : decode cX11_doJob 51 = .ok (.aload_n 2, 1) := by decide +kernel
theorem dX11_doJob_52 : decode cX11_doJob 52 = .ok (.aload_n 1, 1) := by decide +kernel
theorem dX11_doJob_53 : decode cX11_doJob 53 = .ok (.getfield 327, 3) := by decide +kernel
theorem dX11_doJob_56 : decode cX11_doJob 56 = .ok (.invokestatic 330, 3) := by decide +kernel
theorem dX11_doJob_59 : decode cX11_doJob 59 = .ok (.aload_n 1, 1) := by decide +kernel
theorem dX11_doJob_60 : decode cX11_doJob 60 = .ok (.getfield 327, 3) := by decide +kernel
theorem dX11_doJob_63 : decode cX11_doJob 63 = .ok (.invokestatic 334, 3) := by decide +kernel
theorem dX11_doJob_66 : decode cX11_doJob 66 = .ok (.invokevirtual 119, 3) := by decide +kernel
theorem dX11_doJob_69 : decode cX11_doJob 69 = .ok (.pop, 1) := by decide +kernel
theorem dX11_doJob_70 : decode cX11_doJob 70 = .ok (.goto 97, 3) := by decide +kernel
theorem dX11_doJob_73 : decode cX11_doJob 73 = .ok (.aload_n 1, 1) := by decide +kernel
theorem dX11_doJob_74 : decode cX11_doJob 74 = .ok (.getfield 323, 3) := by decide +kernel
theorem dX11_doJob_77 : decode cX11_doJob 77 = .ok (.astore 4, 2) := by decide +kernel
theorem dX11_doJob_79 : decode cX11_doJob 79 = .ok (.aload 4, 2) := by decide +kernel
theorem dX11_doJob_81 : decode cX11_doJob 81 = .ok (.instanceof 81, 3) := by decide +kernel
theorem dX11_doJob_84 : decode cX11_doJob 84 = .ok (.ifCond .eq 21, 3) := by decide +kernel
theorem dX11_doJob_87 : decode cX11_doJob 87 = .ok (.aload 4, 2) := by decide +kernel
theorem dX11_doJob_89 : decode cX11_doJob 89 = .ok (.checkcast 81, 3) := by decide +kernel
theorem dX11_doJob_92 : decode cX11_doJob 92 = .ok (.astore_n 3, 1) := by decide +kernel
theorem dX11_doJob_93 : decode cX11_doJob 93 = .ok (.aload_n 0, 1) := by decide +kernel
theorem dX11_doJob_94 : decode cX11_doJob 94 = .ok (.aload_n 3, 1) := by decide +kernel
theorem dX11_doJob_95 : decode cX11_doJob 95 = .ok (.aload_n 1, 1) := by decide +kernel
theorem dX11_doJob_96 : decode cX11_doJob 96 = .ok (.getfield 327, 3) := by decide +kernel
theorem dX11_doJob_99 : decode cX11_doJob 99 = .ok (.invokevirtual 337, 3) := by decide +kernel
theorem dX11_doJob_102 : decode cX11_doJob 102 = .ok (.goto 65, 3) := by decide +kernel
theorem dX11_doJob_105 : decode cX11_doJob 105 = .ok (.aload_n 1, 1) := by decide +kernel
theorem dX11_doJob_106 : decode cX11_doJob 106 = .ok (.getfield 341, 3) := by decide +kernel
theorem dX11_doJob_109 : decode cX11_doJob 109 = .ok (.ifCond .eq 10, 3) := by decide +kernel
theorem dX11_doJob_112 : decode cX11_doJob 112 = .ok (.aload_n 1, 1) := by decide +kernel
theorem dX11_doJob_113 : decode cX11_doJob 113 = .ok (.getfield 344, 3) := by decide +kernel
theorem dX11_doJob_116 : decode cX11_doJob 116 = .ok (.goto 7, 3) := by decide +kernel
theorem dX11_doJob_119 : decode cX11_doJob 119 = .ok (.aload_n 1, 1) := by decide +kernel
theorem dX11_doJob_120 : decode cX11_doJob 120 = .ok (.getfield 348, 3) := by decide +kernel
theorem dX11_doJob_123 : decode cX11_doJob 123 = .ok (.astore 4, 2) := by decide +kernel
theorem dX11_doJob_125 : decode cX11_doJob 125 = .ok (.aload_n 0, 1) := by decide +kernel
theorem dX11_doJob_126 : decode cX11_doJob 126 = .ok (.aload_n 1, 1) := by decide +kernel
theorem dX11_doJob_127 : decode cX11_doJob 127 = .ok (.getfield 341, 3) := by decide +kernel
theorem dX11_doJob_130 : decode cX11_doJob 130 = .ok (.putfield 351, 3) := by decide +kernel
theorem dX11_doJob_133 : decode cX11_doJob 133 = .ok (.aload 4, 2) := by decide +kernel
theorem dX11_doJob_135 : decode cX11_doJob 135 = .ok (.ifnonnull 10, 3) := by decide +kernel
theorem dX11_doJob_138 : decode cX11_doJob 138 = .ok (.aload_n 1, 1) := by decide +kernel
theorem dX11_doJob_139 : decode cX11_doJob 139 = .ok (.getfield 354, 3) := by decide +kernel
theorem dX11_doJob_142 : decode cX11_doJob 142 = .ok (.goto 13, 3) := by decide +kernel
theorem dX11_doJob_145 : decode cX11_doJob 145 = .ok (.aload 4, 2) := by decide +kernel
theorem dX11_doJob_147 : decode cX11_doJob 147 = .ok (.aload_n 0, 1) := by decide +kernel
theorem dX11_doJob_148 : decode cX11_doJob 148 = .ok (.aload_n 1, 1) := by decide +kernel
theorem dX11_doJob_149 : decode cX11_doJob 149 = .ok (.getfield 354, 3) := by decide +kernel
theorem dX11_doJob_152 : decode cX11_doJob 152 = .ok (.invokevirtual 357, 3) := by decide +kernel
theorem dX11_doJob_155 : decode cX11_doJob 155 = .ok (.istore 5, 2) := by decide +kernel
theorem dX11_doJob_157 : decode cX11_doJob 157 = .ok (.aload_n 0, 1) := by decide +kernel
theorem dX11_doJob_158 : decode cX11_doJob 158 = .ok (.aload_n 1, 1) := by decide +kernel
theorem dX11_doJob_159 : decode cX11_doJob 159 = .ok (.getfield 327, 3) := by decide +kernel
theorem dX11_doJob_162 : decode cX11_doJob 162 = .ok (.iload 5, 2) := by decide +kernel
theorem dX11_doJob_164 : decode cX11_doJob 164 = .ok (.invokevirtual 363, 3) := by decide +kernel
theorem dX11_doJob_167 : decode cX11_doJob 167 = .ok (.return_, 1) := by decide +kernel
theorem dX11_finish_0 : decode cX11_finish 0 = .ok (.aload_n 0, 1) := by decide +kernel
theorem dX11_finish_1 : decode cX11_finish 1 = .ok (.getfield 351, 3) := by decide +kernel
theorem dX11_finish_4 : decode cX11_finish 4 = .ok (.ifCond .eq 12, 3) := by decide +kernel
theorem dX11_finish_7 : decode cX11_finish 7 = .ok (.aload_n 0, 1) := by decide +kernel
theorem dX11_finish_8 : decode cX11_finish 8 = .ok (.aload_n 1, 1) := by decide +kernel
theorem dX11_finish_9 : decode cX11_finish 9 = .ok (.iload_n 2, 1) := by decide +kernel
theorem dX11_finish_10 : decode cX11_finish 10 = .ok (.invokevirtual 131, 3) := by decide +kernel
theorem dX11_finish_13 : decode cX11_finish 13 = .ok (.goto 9, 3) := by decide +kernel
theorem dX11_finish_16 : decode cX11_finish 16 = .ok (.aload_n 0, 1) := by decide +kernel
theorem dX11_finish_17 : decode cX11_finish 17 = .ok (.aload_n 1, 1) := by decide +kernel
theorem dX11_finish_18 : decode cX11_finish 18 = .ok (.iload_n 2, 1) := by decide +kernel
theorem dX11_finish_19 : decode cX11_finish 19 = .ok (.invokevirtual 272, 3) := by decide +kernel
theorem dX11_finish_22 : decode cX11_finish 22 = .ok (.return_, 1) := by decide +kernel
theorem dX11_hears_0 : decode cX11_hears 0 = .ok (.aload_n 0, 1) := by decide +kernel
theorem dX11_hears_1 : decode cX11_hears 1 = .ok (.aload_n 2, 1) := by decide +kernel
theorem dX11_hears_2 : decode cX11_hears 2 = .ok (.getfield 341, 3) := by decide +kernel
theorem dX11_hears_5 : decode cX11_hears 5 = .ok (.putfield 351, 3) := by decide +kernel
theorem dX11_hears_8 : decode cX11_hears 8 = .ok (.aload_n 2, 1) := by decide +kernel
theorem dX11_hears_9 : decode cX11_hears 9 = .ok (.getfield 354, 3) := by decide +kernel
theorem dX11_hears_12 : decode cX11_hears 12 = .ok (.istore_n 3, 1) := by decide +kernel
theorem dX11_hears_13 : decode cX11_hears 13 = .ok (.aload_n 0, 1) := by decide +kernel
theorem dX11_hears_14 : decode cX11_hears 14 = .ok (.getfield 351, 3) := by decide +kernel
theorem dX11_hears_17 : decode cX11_hears 17 = .ok (.ifCond .ne 20, 3) := by decide +kernel
theorem dX11_hears_20 : decode cX11_hears 20 = .ok (.aload_n 1, 1) := by decide +kernel
theorem dX11_hears_21 : decode cX11_hears 21 = .ok (.getfield 366, 3) := by decide +kernel
theorem dX11_hears_24 : decode cX11_hears 24 = .ok (.ifnull 13, 3) := by decide +kernel
theorem dX11_hears_27 : decode cX11_hears 27 = .ok (.aload_n 1, 1) := by decide +kernel
theorem dX11_hears_28 : decode cX11_hears 28 = .ok (.getfield 366, 3) := by decide +kernel
theorem dX11_hears_31 : decode cX11_hears 31 = .ok (.aload_n 0, 1) := by decide +kernel
theorem dX11_hears_32 : decode cX11_hears 32 = .ok (.iload_n 3, 1) := by decide +kernel
theorem dX11_hears_33 : decode cX11_hears 33 = .ok (.invokevirtual 370, 3) := by decide +kernel
theorem dX11_hears_36 : decode cX11_hears 36 = .ok (.istore_n 3, 1) := by decide +kernel
theorem dX11_hears_37 : decode cX11_hears 37 = .ok (.aload_n 0, 1) := by decide +kernel
theorem dX11_hears_38 : decode cX11_hears 38 = .ok (.getfield 351, 3) := by decide +kernel
theorem dX11_hears_41 : decode cX11_hears 41 = .ok (.ifCond .eq 12, 3) := by decide +kernel
theorem dX11_hears_44 : decode cX11_hears 44 = .ok (.aload_n 0, 1) := by decide +kernel
theorem dX11_hears_45 : decode cX11_hears 45 = .ok (.aload_n 1, 1) := by decide +kernel
theorem dX11_hears_46 : decode cX11_hears 46 = .ok (.getfield 371, 3) := by decide +kernel
theorem dX11_hears_49 : decode cX11_hears 49 = .ok (.iload_n 3, 1) := by decide +kernel
theorem dX11_hears_50 : decode cX11_hears 50 = .ok (.invokevirtual 131, 3) := by decide +kernel
theorem dX11_hears_53 : decode cX11_hears 53 = .ok (.aload_n 0, 1) := by decide +kernel
theorem dX11_hears_54 : decode cX11_hears 54 = .ok (.getfield 351, 3) := by decide +kernel
theorem dX11_hears_57 : decode cX11_hears 57 = .ok (.ifCond .ne 7, 3) := by decide +kernel
theorem dX11_hears_60 : decode cX11_hears 60 = .ok (.iconst 1, 1) := by decide +kernel
theorem dX11_hears_61 : decode cX11_hears 61 = .ok (.goto 4, 3) := by decide +kernel
theorem dX11_hears_64 : decode cX11_hears 64 = .ok (.iconst 0, 1) := by decide +kernel
theorem dX11_hears_65 : decode cX11_hears 65 = .ok (.ireturn, 1) := by decide +kernel
theorem dX11_advance_0 : decode cX11_advance 0 = .ok (.aload_n 1, 1) := by decide +kernel
theorem dX11_advance_1 : decode cX11_advance 1 = .ok (.getfield 372, 3) := by decide +kernel
theorem dX11_advance_4 : decode cX11_advance 4 = .ok (.aload_n 1, 1) := by decide +kernel
theorem dX11_advance_5 : decode cX11_advance 5 = .ok (.getfield 374, 3) := by decide +kernel
theorem dX11_advance_8 : decode cX11_advance 8 = .ok (.arraylength, 1) := by decide +kernel
theorem dX11_advance_9 : decode cX11_advance 9 = .ok (.if_icmp .lt 16, 3) := by decide +kernel
theorem dX11_advance_12 : decode cX11_advance 12 = .ok (.aload_n 0, 1) := by decide +kernel
theorem dX11_advance_13 : decode cX11_advance 13 = .ok (.aload_n 1, 1) := by decide +kernel
theorem dX11_advance_14 : decode cX11_advance 14 = .ok (.getfield 371, 3) := by decide +kernel
theorem dX11_advance_17 : decode cX11_advance 17 = .ok (.aload_n 1, 1) := by decide +kernel
theorem dX11_advance_18 : decode cX11_advance 18 = .ok (.getfield 377, 3) := by decide +kernel
theorem dX11_advance_21 : decode cX11_advance 21 = .ok (.invokevirtual 272, 3) := by decide +kernel
theorem dX11_advance_24 : decode cX11_advance 24 = .ok (.return_, 1) := by decide +kernel
theorem dX11_advance_25 : decode cX11_advance 25 = .ok (.aload_n 0, 1) := by decide +kernel
theorem dX11_advance_26 : decode cX11_advance 26 = .ok (.aload_n 1, 1) := by decide +kernel
theorem dX11_advance_27 : decode cX11_advance 27 = .ok (.getfield 374, 3) := by decide +kernel
theorem dX11_advance_30 : decode cX11_advance 30 = .ok (.aload_n 1, 1) := by decide +kernel
theorem dX11_advance_31 : decode cX11_advance 31 = .ok (.getfield 372, 3) := by decide +kernel
theorem dX11_advance_34 : decode cX11_advance 34 = .ok (.iaload, 1) := by decide +kernel
theorem dX11_advance_35 : decode cX11_advance 35 = .ok (.invokevirtual 128, 3) := by decide +kernel
theorem dX11_advance_38 : decode cX11_advance 38 = .ok (.astore_n 2, 1) := by decide +kernel
theorem dX11_advance_39 : decode cX11_advance 39 = .ok (.aload_n 1, 1) := by decide +kernel
theorem dX11_advance_40 : decode cX11_advance 40 = .ok (.dup, 1) := by decide +kernel
theorem dX11_advance_41 : decode cX11_advance 41 = .ok (.getfield 372, 3) := by decide +kernel
theorem dX11_advance_44 : decode cX11_advance 44 = .ok (.iconst 1, 1) := by decide +kernel
theorem dX11_advance_45 : decode cX11_advance 45 = .ok (.iadd, 1) := by decide +kernel
theorem dX11_advance_46 : decode cX11_advance 46 = .ok (.putfield 372, 3) := by decide +kernel
theorem dX11_advance_49 : decode cX11_advance 49 = .ok (.aload_n 0, 1) := by decide +kernel
theorem dX11_advance_50 : decode cX11_advance 50 = .ok (.aload_n 2, 1) := by decide +kernel
theorem dX11_advance_51 : decode cX11_advance 51 = .ok (.aload_n 1, 1) := by decide +kernel
theorem dX11_advance_52 : decode cX11_advance 52 = .ok (.invokestatic 380, 3) := by decide +kernel
theorem dX11_advance_55 : decode cX11_advance 55 = .ok (.invokevirtual 311, 3) := by decide +kernel
theorem dX11_advance_58 : decode cX11_advance 58 = .ok (.return_, 1) := by decide +kernel
theorem dX11_callThen_0 : decode cX11_callThen 0 = .ok (.aload_n 0, 1) := by decide +kernel
theorem dX11_callThen_1 : decode cX11_callThen 1 = .ok (.aload_n 1, 1) := by decide +kernel
theorem dX11_callThen_2 : decode cX11_callThen 2 = .ok (.getfield 101, 3) := by decide +kernel
theorem dX11_callThen_5 : decode cX11_callThen 5 = .ok (.iconst (-1), 1) := by decide +kernel
theorem dX11_callThen_6 : decode cX11_callThen 6 = .ok (.invokevirtual 384, 3) := by decide +kernel
theorem dX11_callThen_9 : decode cX11_callThen 9 = .ok (.aload_n 0, 1) := by decide +kernel
theorem dX11_callThen_10 : decode cX11_callThen 10 = .ok (.aload_n 1, 1) := by decide +kernel
theorem dX11_callThen_11 : decode cX11_callThen 11 = .ok (.aload_n 1, 1) := by decide +kernel
theorem dX11_callThen_12 : decode cX11_callThen 12 = .ok (.getfield 89, 3) := by decide +kernel
theorem dX11_callThen_15 : decode cX11_callThen 15 = .ok (.aload_n 1, 1) := by decide +kernel
theorem dX11_callThen_16 : decode cX11_callThen 16 = .ok (.getfield 92, 3) := by decide +kernel
theorem dX11_callThen_19 : decode cX11_callThen 19 = .ok (.aload_n 2, 1) := by decide +kernel
theorem dX11_callThen_20 : decode cX11_callThen 20 = .ok (.invokevirtual 387, 3) := by decide +kernel
theorem dX11_callThen_23 : decode cX11_callThen 23 = .ok (.aload_n 1, 1) := by decide +kernel
theorem dX11_callThen_24 : decode cX11_callThen 24 = .ok (.getfield 89, 3) := by decide +kernel
theorem dX11_callThen_27 : decode cX11_callThen 27 = .ok (.iconst 3, 1) := by decide +kernel
theorem dX11_callThen_28 : decode cX11_callThen 28 = .ok (.if_icmp .eq 17, 3) := by decide +kernel
theorem dX11_callThen_31 : decode cX11_callThen 31 = .ok (.aload_n 0, 1) := by decide +kernel
theorem dX11_callThen_32 : decode cX11_callThen 32 = .ok (.aload_n 1, 1) := by decide +kernel
theorem dX11_callThen_33 : decode cX11_callThen 33 = .ok (.aload_n 1, 1) := by decide +kernel
theorem dX11_callThen_34 : decode cX11_callThen 34 = .ok (.getfield 95, 3) := by decide +kernel
theorem dX11_callThen_37 : decode cX11_callThen 37 = .ok (.aload_n 1, 1) := by decide +kernel
theorem dX11_callThen_38 : decode cX11_callThen 38 = .ok (.getfield 98, 3) := by decide +kernel
theorem dX11_callThen_41 : decode cX11_callThen 41 = .ok (.aload_n 2, 1) := by decide +kernel
theorem dX11_callThen_42 : decode cX11_callThen 42 = .ok (.invokevirtual 387, 3) := by decide +kernel
theorem dX11_callThen_45 : decode cX11_callThen 45 = .ok (.return_, 1) := by decide +kernel
theorem dX11_doAct_0 : decode cX11_doAct 0 = .ok (.iload_n 2, 1) := by decide +kernel
theorem dX11_doAct_1 : decode cX11_doAct 1 = .ok (.tableswitch 60 1 4 #[31, 41, 41, 51], 31) := by decide +kernel
theorem dX11_doAct_32 : decode cX11_doAct 32 = .ok (.aload_n 0, 1) := by decide +kernel
theorem dX11_doAct_33 : decode cX11_doAct 33 = .ok (.aload 4, 2) := by decide +kernel
theorem dX11_doAct_35 : decode cX11_doAct 35 = .ok (.iload_n 3, 1) := by decide +kernel
theorem dX11_doAct_36 : decode cX11_doAct 36 = .ok (.invokevirtual 272, 3) := by decide +kernel
theorem dX11_doAct_39 : decode cX11_doAct 39 = .ok (.goto 22, 3) := by decide +kernel
theorem dX11_doAct_42 : decode cX11_doAct 42 = .ok (.aload_n 0, 1) := by decide +kernel
theorem dX11_doAct_43 : decode cX11_doAct 43 = .ok (.aload 4, 2) := by decide +kernel
theorem dX11_doAct_45 : decode cX11_doAct 45 = .ok (.iload_n 3, 1) := by decide +kernel
theorem dX11_doAct_46 : decode cX11_doAct 46 = .ok (.invokevirtual 131, 3) := by decide +kernel
theorem dX11_doAct_49 : decode cX11_doAct 49 = .ok (.goto 12, 3) := by decide +kernel
theorem dX11_doAct_52 : decode cX11_doAct 52 = .ok (.aload_n 1, 1) := by decide +kernel
theorem dX11_doAct_53 : decode cX11_doAct 53 = .ok (.aload 4, 2) := by decide +kernel
theorem dX11_doAct_55 : decode cX11_doAct 55 = .ok (.putfield 110, 3) := by decide +kernel
theorem dX11_doAct_58 : decode cX11_doAct 58 = .ok (.goto 3, 3) := by decide +kernel
theorem dX11_doAct_61 : decode cX11_doAct 61 = .ok (.return_, 1) := by decide +kernel
theorem dX11_onFulfilled_0 : decode cX11_onFulfilled 0 = .ok (.aload_n 1, 1) := by decide +kernel
theorem dX11_onFulfilled_1 : decode cX11_onFulfilled 1 = .ok (.getfield 391, 3) := by decide +kernel
theorem dX11_onFulfilled_4 : decode cX11_onFulfilled 4 = .ok (.ifCond .eq 11, 3) := by decide +kernel
theorem dX11_onFulfilled_7 : decode cX11_onFulfilled 7 = .ok (.aload_n 1, 1) := by decide +kernel
theorem dX11_onFulfilled_8 : decode cX11_onFulfilled 8 = .ok (.getfield 391, 3) := by decide +kernel
theorem dX11_onFulfilled_11 : decode cX11_onFulfilled 11 = .ok (.iconst 1, 1) := by decide +kernel
theorem dX11_onFulfilled_12 : decode cX11_onFulfilled 12 = .ok (.if_icmp .ne 14, 3) := by decide +kernel
theorem dX11_onFulfilled_15 : decode cX11_onFulfilled 15 = .ok (.new 394, 3) := by decide +kernel
theorem dX11_onFulfilled_18 : decode cX11_onFulfilled 18 = .ok (.dup, 1) := by decide +kernel
theorem dX11_onFulfilled_19 : decode cX11_onFulfilled 19 = .ok (.aload_n 1, 1) := by decide +kernel
theorem dX11_onFulfilled_20 : decode cX11_onFulfilled 20 = .ok (.iload_n 2, 1) := by decide +kernel
theorem dX11_onFulfilled_21 : decode cX11_onFulfilled 21 = .ok (.iconst 0, 1) := by decide +kernel
theorem dX11_onFulfilled_22 : decode cX11_onFulfilled 22 = .ok (.invokespecial 396, 3) := by decide +kernel
theorem dX11_onFulfilled_25 : decode cX11_onFulfilled 25 = .ok (.areturn, 1) := by decide +kernel
theorem dX11_onFulfilled_26 : decode cX11_onFulfilled 26 = .ok (.aload_n 1, 1) := by decide +kernel
theorem dX11_onFulfilled_27 : decode cX11_onFulfilled 27 = .ok (.getfield 399, 3) := by decide +kernel
theorem dX11_onFulfilled_30 : decode cX11_onFulfilled 30 = .ok (.invokestatic 330, 3) := by decide +kernel
theorem dX11_onFulfilled_33 : decode cX11_onFulfilled 33 = .ok (.areturn, 1) := by decide +kernel
theorem dX11_onRejected_0 : decode cX11_onRejected 0 = .ok (.aload_n 1, 1) := by decide +kernel
theorem dX11_onRejected_1 : decode cX11_onRejected 1 = .ok (.getfield 391, 3) := by decide +kernel
theorem dX11_onRejected_4 : decode cX11_onRejected 4 = .ok (.iconst 1, 1) := by decide +kernel
theorem dX11_onRejected_5 : decode cX11_onRejected 5 = .ok (.if_icmp .eq 11, 3) := by decide +kernel
theorem dX11_onRejected_8 : decode cX11_onRejected 8 = .ok (.aload_n 1, 1) := by decide +kernel
theorem dX11_onRejected_9 : decode cX11_onRejected 9 = .ok (.getfield 391, 3) := by decide +kernel
theorem dX11_onRejected_12 : decode cX11_onRejected 12 = .ok (.iconst 2, 1) := by decide +kernel
theorem dX11_onRejected_13 : decode cX11_onRejected 13 = .ok (.if_icmp .ne 14, 3) := by decide +kernel
theorem dX11_onRejected_16 : decode cX11_onRejected 16 = .ok (.new 394, 3) := by decide +kernel
theorem dX11_onRejected_19 : decode cX11_onRejected 19 = .ok (.dup, 1) := by decide +kernel
theorem dX11_onRejected_20 : decode cX11_onRejected 20 = .ok (.aload_n 1, 1) := by decide +kernel
theorem dX11_onRejected_21 : decode cX11_onRejected 21 = .ok (.iload_n 2, 1) := by decide +kernel
theorem dX11_onRejected_22 : decode cX11_onRejected 22 = .ok (.iconst 1, 1) := by decide +kernel
theorem dX11_onRejected_23 : decode cX11_onRejected 23 = .ok (.invokespecial 396, 3) := by decide +kernel
theorem dX11_onRejected_26 : decode cX11_onRejected 26 = .ok (.areturn, 1) := by decide +kernel
theorem dX11_onRejected_27 : decode cX11_onRejected 27 = .ok (.aload_n 1, 1) := by decide +kernel
theorem dX11_onRejected_28 : decode cX11_onRejected 28 = .ok (.getfield 399, 3) := by decide +kernel
theorem dX11_onRejected_31 : decode cX11_onRejected 31 = .ok (.invokestatic 334, 3) := by decide +kernel
theorem dX11_onRejected_34 : decode cX11_onRejected 34 = .ok (.areturn, 1) := by decide +kernel
theorem dX11_complete_0 : decode cX11_complete 0 = .ok (.aload_n 1, 1) := by decide +kernel
theorem dX11_complete_1 : decode cX11_complete 1 = .ok (.getfield 391, 3) := by decide +kernel
theorem dX11_complete_4 : decode cX11_complete 4 = .ok (.iconst 2, 1) := by decide +kernel
theorem dX11_complete_5 : decode cX11_complete 5 = .ok (.if_icmp .ne 35, 3) := by decide +kernel
theorem dX11_complete_8 : decode cX11_complete 8 = .ok (.aload_n 0, 1) := by decide +kernel
theorem dX11_complete_9 : decode cX11_complete 9 = .ok (.iconst 3, 1) := by decide +kernel
theorem dX11_complete_10 : decode cX11_complete 10 = .ok (.aload_n 1, 1) := by decide +kernel
theorem dX11_complete_11 : decode cX11_complete 11 = .ok (.getfield 400, 3) := by decide +kernel
theorem dX11_complete_14 : decode cX11_complete 14 = .ok (.invokevirtual 275, 3) := by decide +kernel
theorem dX11_complete_17 : decode cX11_complete 17 = .ok (.istore_n 2, 1) := by decide +kernel
theorem dX11_complete_18 : decode cX11_complete 18 = .ok (.aload_n 0, 1) := by decide +kernel
theorem dX11_complete_19 : decode cX11_complete 19 = .ok (.iconst 4, 1) := by decide +kernel
theorem dX11_complete_20 : decode cX11_complete 20 = .ok (.aload_n 1, 1) := by decide +kernel
theorem dX11_complete_21 : decode cX11_complete 21 = .ok (.getfield 400, 3) := by decide +kernel
theorem dX11_complete_24 : decode cX11_complete 24 = .ok (.invokevirtual 275, 3) := by decide +kernel
theorem dX11_complete_27 : decode cX11_complete 27 = .ok (.pop, 1) := by decide +kernel
theorem dX11_complete_28 : decode cX11_complete 28 = .ok (.aload_n 0, 1) := by decide +kernel
theorem dX11_complete_29 : decode cX11_complete 29 = .ok (.aload_n 1, 1) := by decide +kernel
theorem dX11_complete_30 : decode cX11_complete 30 = .ok (.getfield 399, 3) := by decide +kernel
theorem dX11_complete_33 : decode cX11_complete 33 = .ok (.iload_n 2, 1) := by decide +kernel
theorem dX11_complete_34 : decode cX11_complete 34 = .ok (.invokevirtual 131, 3) := by decide +kernel
theorem dX11_complete_37 : decode cX11_complete 37 = .ok (.goto 20, 3) := by decide +kernel
theorem dX11_complete_40 : decode cX11_complete 40 = .ok (.aload_n 0, 1) := by decide +kernel
theorem dX11_complete_41 : decode cX11_complete 41 = .ok (.aload_n 1, 1) := by decide +kernel
theorem dX11_complete_42 : decode cX11_complete 42 = .ok (.getfield 399, 3) := by decide +kernel
theorem dX11_complete_45 : decode cX11_complete 45 = .ok (.aload_n 0, 1) := by decide +kernel
theorem dX11_complete_46 : decode cX11_complete 46 = .ok (.iconst 4, 1) := by decide +kernel
theorem dX11_complete_47 : decode cX11_complete 47 = .ok (.aload_n 1, 1) := by decide +kernel
theorem dX11_complete_48 : decode cX11_complete 48 = .ok (.getfield 400, 3) := by decide +kernel
theorem dX11_complete_51 : decode cX11_complete 51 = .ok (.invokevirtual 275, 3) := by decide +kernel
theorem dX11_complete_54 : decode cX11_complete 54 = .ok (.invokevirtual 272, 3) := by decide +kernel
theorem dX11_complete_57 : decode cX11_complete 57 = .ok (.return_, 1) := by decide +kernel
theorem dJ9_max_7cf53_0 : decode cJ9_max_7cf53 0 = .ok (.iload_n 0, 1) := by decide +kernel
theorem dJ9_max_7cf53_1 : decode cJ9_max_7cf53 1 = .ok (.iload_n 1, 1) := by decide +kernel
theorem dJ9_max_7cf53_2 : decode cJ9_max_7cf53 2 = .ok (.if_icmp .lt 7, 3) := by decide +kernel
theorem dJ9_max_7cf53_5 : decode cJ9_max_7cf53 5 = .ok (.iload_n 0, 1) := by decide +kernel
theorem dJ9_max_7cf53_6 : decode cJ9_max_7cf53 6 = .ok (.goto 4, 3) := by decide +kernel
theorem dJ9_max_7cf53_9 : decode cJ9_max_7cf53 9 = .ok (.iload_n 1, 1) := by decide +kernel
theorem dJ9_max_7cf53_10 : decode cJ9_max_7cf53 10 = .ok (.ireturn, 1) := by decide +kernel
theorem dJ9_min_7cf53_0 : decode cJ9_min_7cf53 0 = .ok (.iload_n 0, 1) := by decide +kernel
theorem dJ9_min_7cf53_1 : decode cJ9_min_7cf53 1 = .ok (.iload_n 1, 1) := by decide +kernel
theorem dJ9_min_7cf53_2 : decode cJ9_min_7cf53 2 = .ok (.if_icmp .gt 7, 3) := by decide +kernel
theorem dJ9_min_7cf53_5 : decode cJ9_min_7cf53 5 = .ok (.iload_n 0, 1) := by decide +kernel
theorem dJ9_min_7cf53_6 : decode cJ9_min_7cf53 6 = .ok (.goto 4, 3) := by decide +kernel
theorem dJ9_min_7cf53_9 : decode cJ9_min_7cf53 9 = .ok (.iload_n 1, 1) := by decide +kernel
theorem dJ9_min_7cf53_10 : decode cJ9_min_7cf53 10 = .ok (.ireturn, 1) := by decide +kernel
theorem dJxa1e45_init_da8c8_0 : decode cJxa1e45_init_da8c8 0 = .ok (.aload_n 0, 1) := by decide +kernel
theorem dJxa1e45_init_da8c8_1 : decode cJxa1e45_init_da8c8 1 = .ok (.invokespecial 1, 3) := by decide +kernel
theorem dJxa1e45_init_da8c8_4 : decode cJxa1e45_init_da8c8 4 = .ok (.return_, 1) := by decide +kernel
theorem dJxc12de_init_da8c8_0 : decode cJxc12de_init_da8c8 0 = .ok (.aload_n 0, 1) := by decide +kernel
theorem dJxc12de_init_da8c8_1 : decode cJxc12de_init_da8c8 1 = .ok (.invokespecial 1, 3) := by decide +kernel
theorem dJxc12de_init_da8c8_4 : decode cJxc12de_init_da8c8 4 = .ok (.aload_n 0, 1) := by decide +kernel
theorem dJxc12de_init_da8c8_5 : decode cJxc12de_init_da8c8 5 = .ok (.iconst 0, 1) := by decide +kernel
theorem dJxc12de_init_da8c8_6 : decode cJxc12de_init_da8c8 6 = .ok (.putfield 7, 3) := by decide +kernel
theorem dJxc12de_init_da8c8_9 : decode cJxc12de_init_da8c8 9 = .ok (.return_, 1) := by decide +kernel
theorem dJx4a65c_init_da8c8_0 : decode cJx4a65c_init_da8c8 0 = .ok (.aload_n 0, 1) := by decide +kernel
theorem dJx4a65c_init_da8c8_1 : decode cJx4a65c_init_da8c8 1 = .ok (.invokespecial 1, 3) := by decide +kernel
theorem dJx4a65c_init_da8c8_4 : decode cJx4a65c_init_da8c8 4 = .ok (.aload_n 0, 1) := by decide +kernel
theorem dJx4a65c_init_da8c8_5 : decode cJx4a65c_init_da8c8 5 = .ok (.getstatic 39, 3) := by decide +kernel
theorem dJx4a65c_init_da8c8_8 : decode cJx4a65c_init_da8c8 8 = .ok (.putfield 9, 3) := by decide +kernel
theorem dJx4a65c_init_da8c8_11 : decode cJx4a65c_init_da8c8 11 = .ok (.return_, 1) := by decide +kernel
theorem dJx4a65c_grow_92f84_0 : decode cJx4a65c_grow_92f84 0 = .ok (.aload_n 0, 1) := by decide +kernel
theorem dJx4a65c_grow_92f84_1 : decode cJx4a65c_grow_92f84 1 = .ok (.getfield 9, 3) := by decide +kernel
theorem dJx4a65c_grow_92f84_4 : decode cJx4a65c_grow_92f84 4 = .ok (.arraylength, 1) := by decide +kernel
theorem dJx4a65c_grow_92f84_5 : decode cJx4a65c_grow_92f84 5 = .ok (.istore_n 2, 1) := by decide +kernel
theorem dJx4a65c_grow_92f84_6 : decode cJx4a65c_grow_92f84 6 = .ok (.iload_n 2, 1) := by decide +kernel
theorem dJx4a65c_grow_92f84_7 : decode cJx4a65c_grow_92f84 7 = .ok (.ifCond .gt 13, 3) := by decide +kernel
theorem dJx4a65c_grow_92f84_10 : decode cJx4a65c_grow_92f84 10 = .ok (.aload_n 0, 1) := by decide +kernel
theorem dJx4a65c_grow_92f84_11 : decode cJx4a65c_grow_92f84 11 = .ok (.getfield 9, 3) := by decide +kernel
theorem dJx4a65c_grow_92f84_14 : decode cJx4a65c_grow_92f84 14 = .ok (.getstatic 39, 3) := by decide +kernel
theorem dJx4a65c_grow_92f84_17 : decode cJx4a65c_grow_92f84 17 = .ok (.if_acmp .eq 28, 3) := by decide +kernel
theorem dJx4a65c_grow_92f84_20 : decode cJx4a65c_grow_92f84 20 = .ok (.iload_n 2, 1) := by decide +kernel
theorem dJx4a65c_grow_92f84_21 : decode cJx4a65c_grow_92f84 21 = .ok (.iload_n 1, 1) := by decide +kernel
theorem dJx4a65c_grow_92f84_22 : decode cJx4a65c_grow_92f84 22 = .ok (.iload_n 2, 1) := by decide +kernel
theorem dJx4a65c_grow_92f84_23 : decode cJx4a65c_grow_92f84 23 = .ok (.isub, 1) := by decide +kernel
theorem dJx4a65c_grow_92f84_24 : decode cJx4a65c_grow_92f84 24 = .ok (.iload_n 2, 1) := by decide +kernel
theorem dJx4a65c_grow_92f84_25 : decode cJx4a65c_grow_92f84 25 = .ok (.iconst 1, 1) := by decide +kernel
theorem dJx4a65c_grow_92f84_26 : decode cJx4a65c_grow_92f84 26 = .ok (.ishr, 1) := by decide +kernel
theorem dJx4a65c_grow_92f84_27 : decode cJx4a65c_grow_92f84 27 = .ok (.invokestatic 73, 3) := by decide +kernel
theorem dJx4a65c_grow_92f84_30 : decode cJx4a65c_grow_92f84 30 = .ok (.istore_n 3, 1) := by decide +kernel
theorem dJx4a65c_grow_92f84_31 : decode cJx4a65c_grow_92f84 31 = .ok (.aload_n 0, 1) := by decide +kernel
theorem dJx4a65c_grow_92f84_32 : decode cJx4a65c_grow_92f84 32 = .ok (.aload_n 0, 1) := by decide +kernel
theorem dJx4a65c_grow_92f84_33 : decode cJx4a65c_grow_92f84 33 = .ok (.getfield 9, 3) := by decide +kernel
theorem dJx4a65c_grow_92f84_36 : decode cJx4a65c_grow_92f84 36 = .ok (.iload_n 3, 1) := by decide +kernel
theorem dJx4a65c_grow_92f84_37 : decode cJx4a65c_grow_92f84 37 = .ok (.invokestatic 66, 3) := by decide +kernel
theorem dJx4a65c_grow_92f84_40 : decode cJx4a65c_grow_92f84 40 = .ok (.dup_x1, 1) := by decide +kernel
theorem dJx4a65c_grow_92f84_41 : decode cJx4a65c_grow_92f84 41 = .ok (.putfield 9, 3) := by decide +kernel
theorem dJx4a65c_grow_92f84_44 : decode cJx4a65c_grow_92f84 44 = .ok (.areturn, 1) := by decide +kernel
theorem dJx4a65c_grow_92f84_45 : decode cJx4a65c_grow_92f84 45 = .ok (.aload_n 0, 1) := by decide +kernel
theorem dJx4a65c_grow_92f84_46 : decode cJx4a65c_grow_92f84 46 = .ok (.bipush 10, 2) := by decide +kernel
theorem dJx4a65c_grow_92f84_48 : decode cJx4a65c_grow_92f84 48 = .ok (.iload_n 1, 1) := by decide +kernel
theorem dJx4a65c_grow_92f84_49 : decode cJx4a65c_grow_92f84 49 = .ok (.invokestatic 79, 3) := by decide +kernel
theorem dJx4a65c_grow_92f84_52 : decode cJx4a65c_grow_92f84 52 = .ok (.anewarray 7, 3) := by decide +kernel
theorem dJx4a65c_grow_92f84_55 : decode cJx4a65c_grow_92f84 55 = .ok (.dup_x1, 1) := by decide +kernel
theorem dJx4a65c_grow_92f84_56 : decode cJx4a65c_grow_92f84 56 = .ok (.putfield 9, 3) := by decide +kernel
theorem dJx4a65c_grow_92f84_59 : decode cJx4a65c_grow_92f84 59 = .ok (.areturn, 1) := by decide +kernel
theorem dJx4a65c_grow_d5877_0 : decode cJx4a65c_grow_d5877 0 = .ok (.aload_n 0, 1) := by decide +kernel
theorem dJx4a65c_grow_d5877_1 : decode cJx4a65c_grow_d5877 1 = .ok (.aload_n 0, 1) := by decide +kernel
theorem dJx4a65c_grow_d5877_2 : decode cJx4a65c_grow_d5877 2 = .ok (.getfield 48, 3) := by decide +kernel
theorem dJx4a65c_grow_d5877_5 : decode cJx4a65c_grow_d5877 5 = .ok (.iconst 1, 1) := by decide +kernel
theorem dJx4a65c_grow_d5877_6 : decode cJx4a65c_grow_d5877 6 = .ok (.iadd, 1) := by decide +kernel
theorem dJx4a65c_grow_d5877_7 : decode cJx4a65c_grow_d5877 7 = .ok (.invokevirtual 69, 3) := by decide +kernel
theorem dJx4a65c_grow_d5877_10 : decode cJx4a65c_grow_d5877 10 = .ok (.areturn, 1) := by decide +kernel
theorem dJx4a65c_size_8abf5_0 : decode cJx4a65c_size_8abf5 0 = .ok (.aload_n 0, 1) := by decide +kernel
theorem dJx4a65c_size_8abf5_1 : decode cJx4a65c_size_8abf5 1 = .ok (.getfield 48, 3) := by decide +kernel
theorem dJx4a65c_size_8abf5_4 : decode cJx4a65c_size_8abf5 4 = .ok (.ireturn, 1) := by decide +kernel
theorem dJx4a65c_elementData_915e3_0 : decode cJx4a65c_elementData_915e3 0 = .ok (.aload_n 0, 1) := by decide +kernel
theorem dJx4a65c_elementData_915e3_1 : decode cJx4a65c_elementData_915e3 1 = .ok (.getfield 9, 3) := by decide +kernel
theorem dJx4a65c_elementData_915e3_4 : decode cJx4a65c_elementData_915e3 4 = .ok (.iload_n 1, 1) := by decide +kernel
theorem dJx4a65c_elementData_915e3_5 : decode cJx4a65c_elementData_915e3 5 = .ok (.aaload, 1) := by decide +kernel
theorem dJx4a65c_elementData_915e3_6 : decode cJx4a65c_elementData_915e3 6 = .ok (.areturn, 1) := by decide +kernel
theorem dJx4a65c_get_915e3_0 : decode cJx4a65c_get_915e3 0 = .ok (.iload_n 1, 1) := by decide +kernel
theorem dJx4a65c_get_915e3_1 : decode cJx4a65c_get_915e3 1 = .ok (.aload_n 0, 1) := by decide +kernel
theorem dJx4a65c_get_915e3_2 : decode cJx4a65c_get_915e3 2 = .ok (.getfield 48, 3) := by decide +kernel
theorem dJx4a65c_get_915e3_5 : decode cJx4a65c_get_915e3 5 = .ok (.invokestatic 118, 3) := by decide +kernel
theorem dJx4a65c_get_915e3_8 : decode cJx4a65c_get_915e3 8 = .ok (.pop, 1) := by decide +kernel
theorem dJx4a65c_get_915e3_9 : decode cJx4a65c_get_915e3 9 = .ok (.aload_n 0, 1) := by decide +kernel
theorem dJx4a65c_get_915e3_10 : decode cJx4a65c_get_915e3 10 = .ok (.iload_n 1, 1) := by decide +kernel
theorem dJx4a65c_get_915e3_11 : decode cJx4a65c_get_915e3 11 = .ok (.invokevirtual 123, 3) := by decide +kernel
theorem dJx4a65c_get_915e3_14 : decode cJx4a65c_get_915e3 14 = .ok (.areturn, 1) := by decide +kernel
theorem dJx4a65c_add_72be8_0 : decode cJx4a65c_add_72be8 0 = .ok (.iload_n 3, 1) := by decide +kernel
theorem dJx4a65c_add_72be8_1 : decode cJx4a65c_add_72be8 1 = .ok (.aload_n 2, 1) := by decide +kernel
theorem dJx4a65c_add_72be8_2 : decode cJx4a65c_add_72be8 2 = .ok (.arraylength, 1) := by decide +kernel
theorem dJx4a65c_add_72be8_3 : decode cJx4a65c_add_72be8 3 = .ok (.if_icmp .ne 8, 3) := by decide +kernel
theorem dJx4a65c_add_72be8_6 : decode cJx4a65c_add_72be8 6 = .ok (.aload_n 0, 1) := by decide +kernel
theorem dJx4a65c_add_72be8_7 : decode cJx4a65c_add_72be8 7 = .ok (.invokevirtual 129, 3) := by decide +kernel
theorem dJx4a65c_add_72be8_10 : decode cJx4a65c_add_72be8 10 = .ok (.astore_n 2, 1) := by decide +kernel
theorem dJx4a65c_add_72be8_11 : decode cJx4a65c_add_72be8 11 = .ok (.aload_n 2, 1) := by decide +kernel
theorem dJx4a65c_add_72be8_12 : decode cJx4a65c_add_72be8 12 = .ok (.iload_n 3, 1) := by decide +kernel
theorem dJx4a65c_add_72be8_13 : decode cJx4a65c_add_72be8 13 = .ok (.aload_n 1, 1) := by decide +kernel
theorem dJx4a65c_add_72be8_14 : decode cJx4a65c_add_72be8 14 = .ok (.aastore, 1) := by decide +kernel
theorem dJx4a65c_add_72be8_15 : decode cJx4a65c_add_72be8 15 = .ok (.aload_n 0, 1) := by decide +kernel
theorem dJx4a65c_add_72be8_16 : decode cJx4a65c_add_72be8 16 = .ok (.iload_n 3, 1) := by decide +kernel
theorem dJx4a65c_add_72be8_17 : decode cJx4a65c_add_72be8 17 = .ok (.iconst 1, 1) := by decide +kernel
theorem dJx4a65c_add_72be8_18 : decode cJx4a65c_add_72be8 18 = .ok (.iadd, 1) := by decide +kernel
theorem dJx4a65c_add_72be8_19 : decode cJx4a65c_add_72be8 19 = .ok (.putfield 48, 3) := by decide +kernel
theorem dJx4a65c_add_72be8_22 : decode cJx4a65c_add_72be8 22 = .ok (.return_, 1) := by decide +kernel
theorem dJx4a65c_add_9ea2d_0 : decode cJx4a65c_add_9ea2d 0 = .ok (.aload_n 0, 1) := by decide +kernel
theorem dJx4a65c_add_9ea2d_1 : decode cJx4a65c_add_9ea2d 1 = .ok (.dup, 1) := by decide +kernel
theorem dJx4a65c_add_9ea2d_2 : decode cJx4a65c_add_9ea2d 2 = .ok (.getfield 63, 3) := by decide +kernel
theorem dJx4a65c_add_9ea2d_5 : decode cJx4a65c_add_9ea2d 5 = .ok (.iconst 1, 1) := by decide +kernel
theorem dJx4a65c_add_9ea2d_6 : decode cJx4a65c_add_9ea2d 6 = .ok (.iadd, 1) := by decide +kernel
theorem dJx4a65c_add_9ea2d_7 : decode cJx4a65c_add_9ea2d 7 = .ok (.putfield 63, 3) := by decide +kernel
theorem dJx4a65c_add_9ea2d_10 : decode cJx4a65c_add_9ea2d 10 = .ok (.aload_n 0, 1) := by decide +kernel
theorem dJx4a65c_add_9ea2d_11 : decode cJx4a65c_add_9ea2d 11 = .ok (.aload_n 1, 1) := by decide +kernel
theorem dJx4a65c_add_9ea2d_12 : decode cJx4a65c_add_9ea2d 12 = .ok (.aload_n 0, 1) := by decide +kernel
theorem dJx4a65c_add_9ea2d_13 : decode cJx4a65c_add_9ea2d 13 = .ok (.getfield 9, 3) := by decide +kernel
theorem dJx4a65c_add_9ea2d_16 : decode cJx4a65c_add_9ea2d 16 = .ok (.aload_n 0, 1) := by decide +kernel
theorem dJx4a65c_add_9ea2d_17 : decode cJx4a65c_add_9ea2d 17 = .ok (.getfield 48, 3) := by decide +kernel
theorem dJx4a65c_add_9ea2d_20 : decode cJx4a65c_add_9ea2d 20 = .ok (.invokevirtual 131, 3) := by decide +kernel
theorem dJx4a65c_add_9ea2d_23 : decode cJx4a65c_add_9ea2d 23 = .ok (.iconst 1, 1) := by decide +kernel
theorem dJx4a65c_add_9ea2d_24 : decode cJx4a65c_add_9ea2d 24 = .ok (.ireturn, 1) := by decide +kernel
theorem dJ7_copyOf_1904c_0 : decode cJ7_copyOf_1904c 0 = .ok (.aload_n 0, 1) := by decide +kernel
theorem dJ7_copyOf_1904c_1 : decode cJ7_copyOf_1904c 1 = .ok (.iload_n 1, 1) := by decide +kernel
theorem dJ7_copyOf_1904c_2 : decode cJ7_copyOf_1904c 2 = .ok (.aload_n 0, 1) := by decide +kernel
theorem dJ7_copyOf_1904c_3 : decode cJ7_copyOf_1904c 3 = .ok (.invokevirtual 86, 3) := by decide +kernel
theorem dJ7_copyOf_1904c_6 : decode cJ7_copyOf_1904c 6 = .ok (.invokestatic 300, 3) := by decide +kernel
theorem dJ7_copyOf_1904c_9 : decode cJ7_copyOf_1904c 9 = .ok (.areturn, 1) := by decide +kernel
theorem dJ7_copyOf_6403c_0 : decode cJ7_copyOf_6403c 0 = .ok (.aload_n 2, 1) := by decide +kernel
theorem dJ7_copyOf_6403c_1 : decode cJ7_copyOf_6403c 1 = .ok (.ldc 110, 2) := by decide +kernel
theorem dJ7_copyOf_6403c_3 : decode cJ7_copyOf_6403c 3 = .ok (.if_acmp .ne 10, 3) := by decide +kernel
theorem dJ7_copyOf_6403c_6 : decode cJ7_copyOf_6403c 6 = .ok (.iload_n 1, 1) := by decide +kernel
theorem dJ7_copyOf_6403c_7 : decode cJ7_copyOf_6403c 7 = .ok (.anewarray 2, 3) := by decide +kernel
theorem dJ7_copyOf_6403c_10 : decode cJ7_copyOf_6403c 10 = .ok (.goto 14, 3) := by decide +kernel
theorem dJ7_copyOf_6403c_13 : decode cJ7_copyOf_6403c 13 = .ok (.aload_n 2, 1) := by decide +kernel
theorem dJ7_copyOf_6403c_14 : decode cJ7_copyOf_6403c 14 = .ok (.invokevirtual 90, 3) := by decide +kernel
theorem dJ7_copyOf_6403c_17 : decode cJ7_copyOf_6403c 17 = .ok (.iload_n 1, 1) := by decide +kernel
theorem dJ7_copyOf_6403c_18 : decode cJ7_copyOf_6403c 18 = .ok (.invokestatic 95, 3) := by decide +kernel
theorem dJ7_copyOf_6403c_21 : decode cJ7_copyOf_6403c 21 = .ok (.checkcast 110, 3) := by decide +kernel
theorem dJ7_copyOf_6403c_24 : decode cJ7_copyOf_6403c 24 = .ok (.astore_n 3, 1) := by decide +kernel
theorem dJ7_copyOf_6403c_25 : decode cJ7_copyOf_6403c 25 = .ok (.aload_n 0, 1) := by decide +kernel
theorem dJ7_copyOf_6403c_26 : decode cJ7_copyOf_6403c 26 = .ok (.iconst 0, 1) := by decide +kernel
theorem dJ7_copyOf_6403c_27 : decode cJ7_copyOf_6403c 27 = .ok (.aload_n 3, 1) := by decide +kernel
theorem dJ7_copyOf_6403c_28 : decode cJ7_copyOf_6403c 28 = .ok (.iconst 0, 1) := by decide +kernel
theorem dJ7_copyOf_6403c_29 : decode cJ7_copyOf_6403c 29 = .ok (.aload_n 0, 1) := by decide +kernel
theorem dJ7_copyOf_6403c_30 : decode cJ7_copyOf_6403c 30 = .ok (.arraylength, 1) := by decide +kernel
theorem dJ7_copyOf_6403c_31 : decode cJ7_copyOf_6403c 31 = .ok (.iload_n 1, 1) := by decide +kernel
theorem dJ7_copyOf_6403c_32 : decode cJ7_copyOf_6403c 32 = .ok (.invokestatic 304, 3) := by decide +kernel
theorem dJ7_copyOf_6403c_35 : decode cJ7_copyOf_6403c 35 = .ok (.invokestatic 150, 3) := by decide +kernel
theorem dJ7_copyOf_6403c_38 : decode cJ7_copyOf_6403c 38 = .ok (.aload_n 3, 1) := by decide +kernel
theorem dJ7_copyOf_6403c_39 : decode cJ7_copyOf_6403c 39 = .ok (.areturn, 1) := by decide +kernel
theorem dJ7_copyOf_59c91_0 : decode cJ7_copyOf_59c91 0 = .ok (.iload_n 1, 1) := by decide +kernel
theorem dJ7_copyOf_59c91_1 : decode cJ7_copyOf_59c91 1 = .ok (.aload_n 0, 1) := by decide +kernel
theorem dJ7_copyOf_59c91_2 : decode cJ7_copyOf_59c91 2 = .ok (.arraylength, 1) := by decide +kernel
theorem dJ7_copyOf_59c91_3 : decode cJ7_copyOf_59c91 3 = .ok (.if_icmp .ne 11, 3) := by decide +kernel
theorem dJ7_copyOf_59c91_6 : decode cJ7_copyOf_59c91 6 = .ok (.aload_n 0, 1) := by decide +kernel
theorem dJ7_copyOf_59c91_7 : decode cJ7_copyOf_59c91 7 = .ok (.invokevirtual 316, 3) := by decide +kernel
theorem dJ7_copyOf_59c91_10 : decode cJ7_copyOf_59c91 10 = .ok (.checkcast 317, 3) := by decide +kernel
theorem dJ7_copyOf_59c91_13 : decode cJ7_copyOf_59c91 13 = .ok (.areturn, 1) := by decide +kernel
theorem dJ7_copyOf_59c91_14 : decode cJ7_copyOf_59c91 14 = .ok (.iload_n 1, 1) := by decide +kernel
theorem dJ7_copyOf_59c91_15 : decode cJ7_copyOf_59c91 15 = .ok (.newarray .int, 2) := by decide +kernel
theorem dJ7_copyOf_59c91_17 : decode cJ7_copyOf_59c91 17 = .ok (.astore_n 2, 1) := by decide +kernel
theorem dJ7_copyOf_59c91_18 : decode cJ7_copyOf_59c91 18 = .ok (.aload_n 0, 1) := by decide +kernel
theorem dJ7_copyOf_59c91_19 : decode cJ7_copyOf_59c91 19 = .ok (.iconst 0, 1) := by decide +kernel
theorem dJ7_copyOf_59c91_20 : decode cJ7_copyOf_59c91 20 = .ok (.aload_n 2, 1) := by decide +kernel
theorem dJ7_copyOf_59c91_21 : decode cJ7_copyOf_59c91 21 = .ok (.iconst 0, 1) := by decide +kernel
theorem dJ7_copyOf_59c91_22 : decode cJ7_copyOf_59c91 22 = .ok (.aload_n 0, 1) := by decide +kernel
theorem dJ7_copyOf_59c91_23 : decode cJ7_copyOf_59c91 23 = .ok (.arraylength, 1) := by decide +kernel
theorem dJ7_copyOf_59c91_24 : decode cJ7_copyOf_59c91 24 = .ok (.iload_n 1, 1) := by decide +kernel
theorem dJ7_copyOf_59c91_25 : decode cJ7_copyOf_59c91 25 = .ok (.invokestatic 304, 3) := by decide +kernel
theorem dJ7_copyOf_59c91_28 : decode cJ7_copyOf_59c91 28 = .ok (.invokestatic 150, 3) := by decide +kernel
theorem dJ7_copyOf_59c91_31 : decode cJ7_copyOf_59c91 31 = .ok (.aload_n 2, 1) := by decide +kernel
theorem dJ7_copyOf_59c91_32 : decode cJ7_copyOf_59c91 32 = .ok (.areturn, 1) := by decide +kernel
theorem dJ15_checkIndex_7cf53_0 : decode cJ15_checkIndex_7cf53 0 = .ok (.iload_n 0, 1) := by decide +kernel
theorem dJ15_checkIndex_7cf53_1 : decode cJ15_checkIndex_7cf53 1 = .ok (.iload_n 1, 1) := by decide +kernel
theorem dJ15_checkIndex_7cf53_2 : decode cJ15_checkIndex_7cf53 2 = .ok (.aconst_null, 1) := by decide +kernel
theorem dJ15_checkIndex_7cf53_3 : decode cJ15_checkIndex_7cf53 3 = .ok (.invokestatic 105, 3) := by decide +kernel
theorem dJ15_checkIndex_7cf53_6 : decode cJ15_checkIndex_7cf53 6 = .ok (.ireturn, 1) := by decide +kernel
theorem dJ8_newLength_cabcc_0 : decode cJ8_newLength_cabcc 0 = .ok (.iload_n 0, 1) := by decide +kernel
theorem dJ8_newLength_cabcc_1 : decode cJ8_newLength_cabcc 1 = .ok (.iload_n 1, 1) := by decide +kernel
theorem dJ8_newLength_cabcc_2 : decode cJ8_newLength_cabcc 2 = .ok (.iload_n 2, 1) := by decide +kernel
theorem dJ8_newLength_cabcc_3 : decode cJ8_newLength_cabcc 3 = .ok (.invokestatic 194, 3) := by decide +kernel
theorem dJ8_newLength_cabcc_6 : decode cJ8_newLength_cabcc 6 = .ok (.iadd, 1) := by decide +kernel
theorem dJ8_newLength_cabcc_7 : decode cJ8_newLength_cabcc 7 = .ok (.istore_n 3, 1) := by decide +kernel
theorem dJ8_newLength_cabcc_8 : decode cJ8_newLength_cabcc 8 = .ok (.iconst 0, 1) := by decide +kernel
theorem dJ8_newLength_cabcc_9 : decode cJ8_newLength_cabcc 9 = .ok (.iload_n 3, 1) := by decide +kernel
theorem dJ8_newLength_cabcc_10 : decode cJ8_newLength_cabcc 10 = .ok (.if_icmp .ge 11, 3) := by decide +kernel
theorem dJ8_newLength_cabcc_13 : decode cJ8_newLength_cabcc 13 = .ok (.iload_n 3, 1) := by decide +kernel
theorem dJ8_newLength_cabcc_14 : decode cJ8_newLength_cabcc 14 = .ok (.ldc 200, 2) := by decide +kernel
theorem dJ8_newLength_cabcc_16 : decode cJ8_newLength_cabcc 16 = .ok (.if_icmp .gt 5, 3) := by decide +kernel
theorem dJ8_newLength_cabcc_19 : decode cJ8_newLength_cabcc 19 = .ok (.iload_n 3, 1) := by decide +kernel
theorem dJ8_newLength_cabcc_20 : decode cJ8_newLength_cabcc 20 = .ok (.ireturn, 1) := by decide +kernel
theorem dJ8_newLength_cabcc_21 : decode cJ8_newLength_cabcc 21 = .ok (.iload_n 0, 1) := by decide +kernel
theorem dJ8_newLength_cabcc_22 : decode cJ8_newLength_cabcc 22 = .ok (.iload_n 1, 1) := by decide +kernel
theorem dJ8_newLength_cabcc_23 : decode cJ8_newLength_cabcc 23 = .ok (.invokestatic 201, 3) := by decide +kernel
theorem dJ8_newLength_cabcc_26 : decode cJ8_newLength_cabcc 26 = .ok (.ireturn, 1) := by decide +kernel
theorem dJ8_hugeLength_7cf53_0 : decode cJ8_hugeLength_7cf53 0 = .ok (.iload_n 0, 1) := by decide +kernel
theorem dJ8_hugeLength_7cf53_1 : decode cJ8_hugeLength_7cf53 1 = .ok (.iload_n 1, 1) := by decide +kernel
theorem dJ8_hugeLength_7cf53_2 : decode cJ8_hugeLength_7cf53 2 = .ok (.iadd, 1) := by decide +kernel
theorem dJ8_hugeLength_7cf53_3 : decode cJ8_hugeLength_7cf53 3 = .ok (.istore_n 2, 1) := by decide +kernel
theorem dJ8_hugeLength_7cf53_4 : decode cJ8_hugeLength_7cf53 4 = .ok (.iload_n 2, 1) := by decide +kernel
theorem dJ8_hugeLength_7cf53_5 : decode cJ8_hugeLength_7cf53 5 = .ok (.ifCond .ge 44, 3) := by decide +kernel
theorem dJ8_hugeLength_7cf53_8 : decode cJ8_hugeLength_7cf53 8 = .ok (.new 204, 3) := by decide +kernel
theorem dJ8_hugeLength_7cf53_11 : decode cJ8_hugeLength_7cf53 11 = .ok (.dup, 1) := by decide +kernel
theorem dJ8_hugeLength_7cf53_12 : decode cJ8_hugeLength_7cf53 12 = .ok (.new 89, 3) := by decide +kernel
theorem dJ8_hugeLength_7cf53_15 : decode cJ8_hugeLength_7cf53 15 = .ok (.dup, 1) := by decide +kernel
theorem dJ8_hugeLength_7cf53_16 : decode cJ8_hugeLength_7cf53 16 = .ok (.invokespecial 91, 3) := by decide +kernel
theorem dJ8_hugeLength_7cf53_19 : decode cJ8_hugeLength_7cf53 19 = .ok (.ldc 206, 2) := by decide +kernel
theorem dJ8_hugeLength_7cf53_21 : decode cJ8_hugeLength_7cf53 21 = .ok (.invokevirtual 94, 3) := by decide +kernel
theorem dJ8_hugeLength_7cf53_24 : decode cJ8_hugeLength_7cf53 24 = .ok (.iload_n 0, 1) := by decide +kernel
theorem dJ8_hugeLength_7cf53_25 : decode cJ8_hugeLength_7cf53 25 = .ok (.invokevirtual 98, 3) := by decide +kernel
theorem dJ8_hugeLength_7cf53_28 : decode cJ8_hugeLength_7cf53 28 = .ok (.ldc 208, 2) := by decide +kernel
theorem dJ8_hugeLength_7cf53_30 : decode cJ8_hugeLength_7cf53 30 = .ok (.invokevirtual 94, 3) := by decide +kernel
theorem dJ8_hugeLength_7cf53_33 : decode cJ8_hugeLength_7cf53 33 = .ok (.iload_n 1, 1) := by decide +kernel
theorem dJ8_hugeLength_7cf53_34 : decode cJ8_hugeLength_7cf53 34 = .ok (.invokevirtual 98, 3) := by decide +kernel
theorem dJ8_hugeLength_7cf53_37 : decode cJ8_hugeLength_7cf53 37 = .ok (.ldc 210, 2) := by decide +kernel
theorem dJ8_hugeLength_7cf53_39 : decode cJ8_hugeLength_7cf53 39 = .ok (.invokevirtual 94, 3) := by decide +kernel
theorem dJ8_hugeLength_7cf53_42 : decode cJ8_hugeLength_7cf53 42 = .ok (.invokevirtual 101, 3) := by decide +kernel
theorem dJ8_hugeLength_7cf53_45 : decode cJ8_hugeLength_7cf53 45 = .ok (.invokespecial 212, 3) := by decide +kernel
theorem dJ8_hugeLength_7cf53_48 : decode cJ8_hugeLength_7cf53 48 = .ok (.athrow, 1) := by decide +kernel
theorem dJ8_hugeLength_7cf53_49 : decode cJ8_hugeLength_7cf53 49 = .ok (.iload_n 2, 1) := by decide +kernel
theorem dJ8_hugeLength_7cf53_50 : decode cJ8_hugeLength_7cf53 50 = .ok (.ldc 200, 2) := by decide +kernel
theorem dJ8_hugeLength_7cf53_52 : decode cJ8_hugeLength_7cf53 52 = .ok (.if_icmp .gt 6, 3) := by decide +kernel
theorem dJ8_hugeLength_7cf53_55 : decode cJ8_hugeLength_7cf53 55 = .ok (.ldc 200, 2) := by decide +kernel
theorem dJ8_hugeLength_7cf53_57 : decode cJ8_hugeLength_7cf53 57 = .ok (.ireturn, 1) := by decide +kernel
theorem dJ8_hugeLength_7cf53_58 : decode cJ8_hugeLength_7cf53 58 = .ok (.iload_n 2, 1) := by decide +kernel
theorem dJ8_hugeLength_7cf53_59 : decode cJ8_hugeLength_7cf53 59 = .ok (.ireturn, 1) := by decide +kernel
theorem dJ3_checkIndex_8e157_0 : decode cJ3_checkIndex_8e157 0 = .ok (.iload_n 0, 1) := by decide +kernel
theorem dJ3_checkIndex_8e157_1 : decode cJ3_checkIndex_8e157 1 = .ok (.ifCond .lt 8, 3) := by decide +kernel
theorem dJ3_checkIndex_8e157_4 : decode cJ3_checkIndex_8e157 4 = .ok (.iload_n 0, 1) := by decide +kernel
theorem dJ3_checkIndex_8e157_5 : decode cJ3_checkIndex_8e157 5 = .ok (.iload_n 1, 1) := by decide +kernel
theorem dJ3_checkIndex_8e157_6 : decode cJ3_checkIndex_8e157 6 = .ok (.if_icmp .lt 10, 3) := by decide +kernel
theorem dJ3_checkIndex_8e157_9 : decode cJ3_checkIndex_8e157 9 = .ok (.aload_n 2, 1) := by decide +kernel
theorem dJ3_checkIndex_8e157_10 : decode cJ3_checkIndex_8e157 10 = .ok (.iload_n 0, 1) := by decide +kernel
theorem dJ3_checkIndex_8e157_11 : decode cJ3_checkIndex_8e157 11 = .ok (.iload_n 1, 1) := by decide +kernel
theorem dJ3_checkIndex_8e157_12 : decode cJ3_checkIndex_8e157 12 = .ok (.invokestatic 95, 3) := by decide +kernel
theorem dJ3_checkIndex_8e157_15 : decode cJ3_checkIndex_8e157 15 = .ok (.athrow, 1) := by decide +kernel
theorem dJ3_checkIndex_8e157_16 : decode cJ3_checkIndex_8e157 16 = .ok (.iload_n 0, 1) := by decide +kernel
theorem dJ3_checkIndex_8e157_17 : decode cJ3_checkIndex_8e157 17 = .ok (.ireturn, 1) := by decide +kernel
