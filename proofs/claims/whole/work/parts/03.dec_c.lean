theorem dX10_init_0 : decode cX10_init 0 = .ok (.aload_n 0, 1) := by decide +kernel
theorem dX10_init_1 : decode cX10_init 1 = .ok (.invokespecial 1, 3) := by decide +kernel
theorem dX10_init_4 : decode cX10_init 4 = .ok (.aload_n 0, 1) := by decide +kernel
theorem dX10_init_5 : decode cX10_init 5 = .ok (.new 7, 3) := by decide +kernel
theorem dX10_init_8 : decode cX10_init 8 = .ok (.dup, 1) := by decide +kernel
theorem dX10_init_9 : decode cX10_init 9 = .ok (.invokespecial 9, 3) := by decide +kernel
theorem dX10_init_12 : decode cX10_init 12 = .ok (.putfield 10, 3) := by decide +kernel
theorem dX10_init_15 : decode cX10_init 15 = .ok (.aload_n 0, 1) := by decide +kernel
theorem dX10_init_16 : decode cX10_init 16 = .ok (.bipush 9, 2) := by decide +kernel
theorem dX10_init_18 : decode cX10_init 18 = .ok (.anewarray 16, 3) := by decide +kernel
theorem dX10_init_21 : decode cX10_init 21 = .ok (.putfield 18, 3) := by decide +kernel
theorem dX10_init_24 : decode cX10_init 24 = .ok (.aload_n 0, 1) := by decide +kernel
theorem dX10_init_25 : decode cX10_init 25 = .ok (.new 22, 3) := by decide +kernel
theorem dX10_init_28 : decode cX10_init 28 = .ok (.dup, 1) := by decide +kernel
theorem dX10_init_29 : decode cX10_init 29 = .ok (.invokespecial 24, 3) := by decide +kernel
theorem dX10_init_32 : decode cX10_init 32 = .ok (.putfield 25, 3) := by decide +kernel
theorem dX10_init_35 : decode cX10_init 35 = .ok (.aload_n 0, 1) := by decide +kernel
theorem dX10_init_36 : decode cX10_init 36 = .ok (.new 29, 3) := by decide +kernel
theorem dX10_init_39 : decode cX10_init 39 = .ok (.dup, 1) := by decide +kernel
theorem dX10_init_40 : decode cX10_init 40 = .ok (.invokespecial 31, 3) := by decide +kernel
theorem dX10_init_43 : decode cX10_init 43 = .ok (.putfield 32, 3) := by decide +kernel
theorem dX10_init_46 : decode cX10_init 46 = .ok (.aload_n 0, 1) := by decide +kernel
theorem dX10_init_47 : decode cX10_init 47 = .ok (.bipush 6, 2) := by decide +kernel
theorem dX10_init_49 : decode cX10_init 49 = .ok (.anewarray 36, 3) := by decide +kernel
theorem dX10_init_52 : decode cX10_init 52 = .ok (.putfield 38, 3) := by decide +kernel
theorem dX10_init_55 : decode cX10_init 55 = .ok (.aload_n 0, 1) := by decide +kernel
theorem dX10_init_56 : decode cX10_init 56 = .ok (.new 42, 3) := by decide +kernel
theorem dX10_init_59 : decode cX10_init 59 = .ok (.dup, 1) := by decide +kernel
theorem dX10_init_60 : decode cX10_init 60 = .ok (.invokespecial 44, 3) := by decide +kernel
theorem dX10_init_63 : decode cX10_init 63 = .ok (.putfield 45, 3) := by decide +kernel
theorem dX10_init_66 : decode cX10_init 66 = .ok (.aload_n 0, 1) := by decide +kernel
theorem dX10_init_67 : decode cX10_init 67 = .ok (.aconst_null, 1) := by decide +kernel
theorem dX10_init_68 : decode cX10_init 68 = .ok (.putfield 49, 3) := by decide +kernel
theorem dX10_init_71 : decode cX10_init 71 = .ok (.aload_n 0, 1) := by decide +kernel
theorem dX10_init_72 : decode cX10_init 72 = .ok (.iconst 0, 1) := by decide +kernel
theorem dX10_init_73 : decode cX10_init 73 = .ok (.putfield 52, 3) := by decide +kernel
theorem dX10_init_76 : decode cX10_init 76 = .ok (.aload_n 0, 1) := by decide +kernel
theorem dX10_init_77 : decode cX10_init 77 = .ok (.iconst 0, 1) := by decide +kernel
theorem dX10_init_78 : decode cX10_init 78 = .ok (.putfield 56, 3) := by decide +kernel
theorem dX10_init_81 : decode cX10_init 81 = .ok (.aload_n 0, 1) := by decide +kernel
theorem dX10_init_82 : decode cX10_init 82 = .ok (.iconst (-1), 1) := by decide +kernel
theorem dX10_init_83 : decode cX10_init 83 = .ok (.putfield 59, 3) := by decide +kernel
theorem dX10_init_86 : decode cX10_init 86 = .ok (.aload_n 0, 1) := by decide +kernel
theorem dX10_init_87 : decode cX10_init 87 = .ok (.iconst (-1), 1) := by decide +kernel
theorem dX10_init_88 : decode cX10_init 88 = .ok (.putfield 62, 3) := by decide +kernel
theorem dX10_init_91 : decode cX10_init 91 = .ok (.aload_n 0, 1) := by decide +kernel
theorem dX10_init_92 : decode cX10_init 92 = .ok (.iconst 0, 1) := by decide +kernel
theorem dX10_init_93 : decode cX10_init 93 = .ok (.putfield 65, 3) := by decide +kernel
theorem dX10_init_96 : decode cX10_init 96 = .ok (.iconst 0, 1) := by decide +kernel
theorem dX10_init_97 : decode cX10_init 97 = .ok (.istore_n 1, 1) := by decide +kernel
theorem dX10_init_98 : decode cX10_init 98 = .ok (.iload_n 1, 1) := by decide +kernel
theorem dX10_init_99 : decode cX10_init 99 = .ok (.bipush 8, 2) := by decide +kernel
theorem dX10_init_101 : decode cX10_init 101 = .ok (.if_icmp .gt 22, 3) := by decide +kernel
theorem dX10_init_104 : decode cX10_init 104 = .ok (.aload_n 0, 1) := by decide +kernel
theorem dX10_init_105 : decode cX10_init 105 = .ok (.getfield 18, 3) := by decide +kernel
theorem dX10_init_108 : decode cX10_init 108 = .ok (.iload_n 1, 1) := by decide +kernel
theorem dX10_init_109 : decode cX10_init 109 = .ok (.new 16, 3) := by decide +kernel
theorem dX10_init_112 : decode cX10_init 112 = .ok (.dup, 1) := by decide +kernel
theorem dX10_init_113 : decode cX10_init 113 = .ok (.invokespecial 68, 3) := by decide +kernel
theorem dX10_init_116 : decode cX10_init 116 = .ok (.aastore, 1) := by decide +kernel
theorem dX10_init_117 : decode cX10_init 117 = .ok (.iinc 1 1, 3) := by decide +kernel
theorem dX10_init_120 : decode cX10_init 120 = .ok (.goto (-22), 3) := by decide +kernel
theorem dX10_init_123 : decode cX10_init 123 = .ok (.iconst 0, 1) := by decide +kernel
theorem dX10_init_124 : decode cX10_init 124 = .ok (.istore_n 1, 1) := by decide +kernel
theorem dX10_init_125 : decode cX10_init 125 = .ok (.iload_n 1, 1) := by decide +kernel
theorem dX10_init_126 : decode cX10_init 126 = .ok (.bipush 6, 2) := by decide +kernel
theorem dX10_init_128 : decode cX10_init 128 = .ok (.if_icmp .ge 22, 3) := by decide +kernel
theorem dX10_init_131 : decode cX10_init 131 = .ok (.aload_n 0, 1) := by decide +kernel
theorem dX10_init_132 : decode cX10_init 132 = .ok (.getfield 38, 3) := by decide +kernel
theorem dX10_init_135 : decode cX10_init 135 = .ok (.iload_n 1, 1) := by decide +kernel
theorem dX10_init_136 : decode cX10_init 136 = .ok (.new 36, 3) := by decide +kernel
theorem dX10_init_139 : decode cX10_init 139 = .ok (.dup, 1) := by decide +kernel
theorem dX10_init_140 : decode cX10_init 140 = .ok (.invokespecial 69, 3) := by decide +kernel
theorem dX10_init_143 : decode cX10_init 143 = .ok (.aastore, 1) := by decide +kernel
theorem dX10_init_144 : decode cX10_init 144 = .ok (.iinc 1 1, 3) := by decide +kernel
theorem dX10_init_147 : decode cX10_init 147 = .ok (.goto (-22), 3) := by decide +kernel
theorem dX10_init_150 : decode cX10_init 150 = .ok (.return_, 1) := by decide +kernel
theorem dX10_leg_0 : decode cX10_leg 0 = .ok (.aload_n 0, 1) := by decide +kernel
theorem dX10_leg_1 : decode cX10_leg 1 = .ok (.getfield 32, 3) := by decide +kernel
theorem dX10_leg_4 : decode cX10_leg 4 = .ok (.getfield 70, 3) := by decide +kernel
theorem dX10_leg_7 : decode cX10_leg 7 = .ok (.ifCond .le 9, 3) := by decide +kernel
theorem dX10_leg_10 : decode cX10_leg 10 = .ok (.aload_n 0, 1) := by decide +kernel
theorem dX10_leg_11 : decode cX10_leg 11 = .ok (.iconst 5, 1) := by decide +kernel
theorem dX10_leg_12 : decode cX10_leg 12 = .ok (.invokevirtual 73, 3) := by decide +kernel
theorem dX10_leg_15 : decode cX10_leg 15 = .ok (.ireturn, 1) := by decide +kernel
theorem dX10_leg_16 : decode cX10_leg 16 = .ok (.iload_n 1, 1) := by decide +kernel
theorem dX10_leg_17 : decode cX10_leg 17 = .ok (.bipush 10, 2) := by decide +kernel
theorem dX10_leg_19 : decode cX10_leg 19 = .ok (.sipush 2000, 3) := by decide +kernel
theorem dX10_leg_22 : decode cX10_leg 22 = .ok (.invokestatic 77, 3) := by decide +kernel
theorem dX10_leg_25 : decode cX10_leg 25 = .ok (.ifCond .eq 15, 3) := by decide +kernel
theorem dX10_leg_28 : decode cX10_leg 28 = .ok (.iload_n 2, 1) := by decide +kernel
theorem dX10_leg_29 : decode cX10_leg 29 = .ok (.bipush 50, 2) := by decide +kernel
theorem dX10_leg_31 : decode cX10_leg 31 = .ok (.sipush 200, 3) := by decide +kernel
theorem dX10_leg_34 : decode cX10_leg 34 = .ok (.invokestatic 77, 3) := by decide +kernel
theorem dX10_leg_37 : decode cX10_leg 37 = .ok (.ifCond .ne 9, 3) := by decide +kernel
theorem dX10_leg_40 : decode cX10_leg 40 = .ok (.aload_n 0, 1) := by decide +kernel
theorem dX10_leg_41 : decode cX10_leg 41 = .ok (.iconst 2, 1) := by decide +kernel
theorem dX10_leg_42 : decode cX10_leg 42 = .ok (.invokevirtual 73, 3) := by decide +kernel
theorem dX10_leg_45 : decode cX10_leg 45 = .ok (.ireturn, 1) := by decide +kernel
theorem dX10_leg_46 : decode cX10_leg 46 = .ok (.aload_n 0, 1) := by decide +kernel
theorem dX10_leg_47 : decode cX10_leg 47 = .ok (.getfield 32, 3) := by decide +kernel
theorem dX10_leg_50 : decode cX10_leg 50 = .ok (.getfield 81, 3) := by decide +kernel
theorem dX10_leg_53 : decode cX10_leg 53 = .ok (.getfield 85, 3) := by decide +kernel
theorem dX10_leg_56 : decode cX10_leg 56 = .ok (.bipush 12, 2) := by decide +kernel
theorem dX10_leg_58 : decode cX10_leg 58 = .ok (.if_icmp .lt 9, 3) := by decide +kernel
theorem dX10_leg_61 : decode cX10_leg 61 = .ok (.aload_n 0, 1) := by decide +kernel
theorem dX10_leg_62 : decode cX10_leg 62 = .ok (.iconst 3, 1) := by decide +kernel
theorem dX10_leg_63 : decode cX10_leg 63 = .ok (.invokevirtual 73, 3) := by decide +kernel
theorem dX10_leg_66 : decode cX10_leg 66 = .ok (.ireturn, 1) := by decide +kernel
theorem dX10_leg_67 : decode cX10_leg 67 = .ok (.aload_n 0, 1) := by decide +kernel
theorem dX10_leg_68 : decode cX10_leg 68 = .ok (.getfield 32, 3) := by decide +kernel
theorem dX10_leg_71 : decode cX10_leg 71 = .ok (.getfield 81, 3) := by decide +kernel
theorem dX10_leg_74 : decode cX10_leg 74 = .ok (.iload_n 1, 1) := by decide +kernel
theorem dX10_leg_75 : decode cX10_leg 75 = .ok (.iload_n 2, 1) := by decide +kernel
theorem dX10_leg_76 : decode cX10_leg 76 = .ok (.invokevirtual 90, 3) := by decide +kernel
theorem dX10_leg_79 : decode cX10_leg 79 = .ok (.aload_n 0, 1) := by decide +kernel
theorem dX10_leg_80 : decode cX10_leg 80 = .ok (.aload_n 0, 1) := by decide +kernel
theorem dX10_leg_81 : decode cX10_leg 81 = .ok (.getfield 32, 3) := by decide +kernel
theorem dX10_leg_84 : decode cX10_leg 84 = .ok (.getfield 81, 3) := by decide +kernel
theorem dX10_leg_87 : decode cX10_leg 87 = .ok (.getfield 85, 3) := by decide +kernel
theorem dX10_leg_90 : decode cX10_leg 90 = .ok (.invokevirtual 94, 3) := by decide +kernel
theorem dX10_leg_93 : decode cX10_leg 93 = .ok (.ireturn, 1) := by decide +kernel
theorem dX10_cold_0 : decode cX10_cold 0 = .ok (.iload_n 1, 1) := by decide +kernel
theorem dX10_cold_1 : decode cX10_cold 1 = .ok (.ifCond .lt 26, 3) := by decide +kernel
theorem dX10_cold_4 : decode cX10_cold 4 = .ok (.iload_n 2, 1) := by decide +kernel
theorem dX10_cold_5 : decode cX10_cold 5 = .ok (.sipush 334, 3) := by decide +kernel
theorem dX10_cold_8 : decode cX10_cold 8 = .ok (.if_icmp .ge 19, 3) := by decide +kernel
theorem dX10_cold_11 : decode cX10_cold 11 = .ok (.iload_n 1, 1) := by decide +kernel
theorem dX10_cold_12 : decode cX10_cold 12 = .ok (.iload_n 2, 1) := by decide +kernel
theorem dX10_cold_13 : decode cX10_cold 13 = .ok (.if_icmp .gt 14, 3) := by decide +kernel
theorem dX10_cold_16 : decode cX10_cold 16 = .ok (.iload_n 3, 1) := by decide +kernel
theorem dX10_cold_17 : decode cX10_cold 17 = .ok (.bipush (-50), 2) := by decide +kernel
theorem dX10_cold_19 : decode cX10_cold 19 = .ok (.bipush 20, 2) := by decide +kernel
theorem dX10_cold_21 : decode cX10_cold 21 = .ok (.invokestatic 77, 3) := by decide +kernel
theorem dX10_cold_24 : decode cX10_cold 24 = .ok (.ifCond .ne 9, 3) := by decide +kernel
theorem dX10_cold_27 : decode cX10_cold 27 = .ok (.aload_n 0, 1) := by decide +kernel
theorem dX10_cold_28 : decode cX10_cold 28 = .ok (.iconst 2, 1) := by decide +kernel
theorem dX10_cold_29 : decode cX10_cold 29 = .ok (.invokevirtual 97, 3) := by decide +kernel
theorem dX10_cold_32 : decode cX10_cold 32 = .ok (.ireturn, 1) := by decide +kernel
theorem dX10_cold_33 : decode cX10_cold 33 = .ok (.aload_n 0, 1) := by decide +kernel
theorem dX10_cold_34 : decode cX10_cold 34 = .ok (.getfield 32, 3) := by decide +kernel
theorem dX10_cold_37 : decode cX10_cold 37 = .ok (.getfield 70, 3) := by decide +kernel
theorem dX10_cold_40 : decode cX10_cold 40 = .ok (.bipush 6, 2) := by decide +kernel
theorem dX10_cold_42 : decode cX10_cold 42 = .ok (.iadd, 1) := by decide +kernel
theorem dX10_cold_43 : decode cX10_cold 43 = .ok (.iconst 1, 1) := by decide +kernel
theorem dX10_cold_44 : decode cX10_cold 44 = .ok (.isub, 1) := by decide +kernel
theorem dX10_cold_45 : decode cX10_cold 45 = .ok (.bipush 6, 2) := by decide +kernel
theorem dX10_cold_47 : decode cX10_cold 47 = .ok (.idiv, 1) := by decide +kernel
theorem dX10_cold_48 : decode cX10_cold 48 = .ok (.istore 4, 2) := by decide +kernel
theorem dX10_cold_50 : decode cX10_cold 50 = .ok (.iload_n 1, 1) := by decide +kernel
theorem dX10_cold_51 : decode cX10_cold 51 = .ok (.iload 4, 2) := by decide +kernel
theorem dX10_cold_53 : decode cX10_cold 53 = .ok (.invokestatic 101, 3) := by decide +kernel
theorem dX10_cold_56 : decode cX10_cold 56 = .ok (.istore 5, 2) := by decide +kernel
theorem dX10_cold_58 : decode cX10_cold 58 = .ok (.iload 5, 2) := by decide +kernel
theorem dX10_cold_60 : decode cX10_cold 60 = .ok (.iload_n 2, 1) := by decide +kernel
theorem dX10_cold_61 : decode cX10_cold 61 = .ok (.if_icmp .gt 23, 3) := by decide +kernel
theorem dX10_cold_64 : decode cX10_cold 64 = .ok (.aload_n 0, 1) := by decide +kernel
theorem dX10_cold_65 : decode cX10_cold 65 = .ok (.getfield 32, 3) := by decide +kernel
theorem dX10_cold_68 : decode cX10_cold 68 = .ok (.getfield 81, 3) := by decide +kernel
theorem dX10_cold_71 : decode cX10_cold 71 = .ok (.getfield 107, 3) := by decide +kernel
theorem dX10_cold_74 : decode cX10_cold 74 = .ok (.iload 5, 2) := by decide +kernel
theorem dX10_cold_76 : decode cX10_cold 76 = .ok (.iload_n 3, 1) := by decide +kernel
theorem dX10_cold_77 : decode cX10_cold 77 = .ok (.iastore, 1) := by decide +kernel
theorem dX10_cold_78 : decode cX10_cold 78 = .ok (.iinc 5 1, 3) := by decide +kernel
theorem dX10_cold_81 : decode cX10_cold 81 = .ok (.goto (-23), 3) := by decide +kernel
theorem dX10_cold_84 : decode cX10_cold 84 = .ok (.aload_n 0, 1) := by decide +kernel
theorem dX10_cold_85 : decode cX10_cold 85 = .ok (.invokevirtual 111, 3) := by decide +kernel
theorem dX10_cold_88 : decode cX10_cold 88 = .ok (.ireturn, 1) := by decide +kernel
theorem dX10_feed_0 : decode cX10_feed 0 = .ok (.aload_n 0, 1) := by decide +kernel
theorem dX10_feed_1 : decode cX10_feed 1 = .ok (.getfield 10, 3) := by decide +kernel
theorem dX10_feed_4 : decode cX10_feed 4 = .ok (.getfield 115, 3) := by decide +kernel
theorem dX10_feed_7 : decode cX10_feed 7 = .ok (.bipush 20, 2) := by decide +kernel
theorem dX10_feed_9 : decode cX10_feed 9 = .ok (.iadd, 1) := by decide +kernel
theorem dX10_feed_10 : decode cX10_feed 10 = .ok (.sipush 400, 3) := by decide +kernel
theorem dX10_feed_13 : decode cX10_feed 13 = .ok (.if_icmp .le 5, 3) := by decide +kernel
theorem dX10_feed_16 : decode cX10_feed 16 = .ok (.iconst (-1), 1) := by decide +kernel
theorem dX10_feed_17 : decode cX10_feed 17 = .ok (.ireturn, 1) := by decide +kernel
theorem dX10_feed_18 : decode cX10_feed 18 = .ok (.aload_n 0, 1) := by decide +kernel
theorem dX10_feed_19 : decode cX10_feed 19 = .ok (.getfield 10, 3) := by decide +kernel
theorem dX10_feed_22 : decode cX10_feed 22 = .ok (.iload_n 1, 1) := by decide +kernel
theorem dX10_feed_23 : decode cX10_feed 23 = .ok (.invokevirtual 118, 3) := by decide +kernel
theorem dX10_feed_26 : decode cX10_feed 26 = .ok (.aload_n 0, 1) := by decide +kernel
theorem dX10_feed_27 : decode cX10_feed 27 = .ok (.getfield 10, 3) := by decide +kernel
theorem dX10_feed_30 : decode cX10_feed 30 = .ok (.iload_n 2, 1) := by decide +kernel
theorem dX10_feed_31 : decode cX10_feed 31 = .ok (.invokevirtual 118, 3) := by decide +kernel
theorem dX10_feed_34 : decode cX10_feed 34 = .ok (.aload_n 0, 1) := by decide +kernel
theorem dX10_feed_35 : decode cX10_feed 35 = .ok (.getfield 10, 3) := by decide +kernel
theorem dX10_feed_38 : decode cX10_feed 38 = .ok (.iload_n 3, 1) := by decide +kernel
theorem dX10_feed_39 : decode cX10_feed 39 = .ok (.invokevirtual 118, 3) := by decide +kernel
theorem dX10_feed_42 : decode cX10_feed 42 = .ok (.aload_n 0, 1) := by decide +kernel
theorem dX10_feed_43 : decode cX10_feed 43 = .ok (.getfield 10, 3) := by decide +kernel
theorem dX10_feed_46 : decode cX10_feed 46 = .ok (.iload 4, 2) := by decide +kernel
theorem dX10_feed_48 : decode cX10_feed 48 = .ok (.invokevirtual 118, 3) := by decide +kernel
theorem dX10_feed_51 : decode cX10_feed 51 = .ok (.aload_n 0, 1) := by decide +kernel
theorem dX10_feed_52 : decode cX10_feed 52 = .ok (.getfield 10, 3) := by decide +kernel
theorem dX10_feed_55 : decode cX10_feed 55 = .ok (.iload 5, 2) := by decide +kernel
theorem dX10_feed_57 : decode cX10_feed 57 = .ok (.invokevirtual 118, 3) := by decide +kernel
theorem dX10_feed_60 : decode cX10_feed 60 = .ok (.aload_n 0, 1) := by decide +kernel
theorem dX10_feed_61 : decode cX10_feed 61 = .ok (.getfield 10, 3) := by decide +kernel
theorem dX10_feed_64 : decode cX10_feed 64 = .ok (.getfield 115, 3) := by decide +kernel
theorem dX10_feed_67 : decode cX10_feed 67 = .ok (.ireturn, 1) := by decide +kernel
theorem dX10_plan_0 : decode cX10_plan 0 = .ok (.iload_n 1, 1) := by decide +kernel
theorem dX10_plan_1 : decode cX10_plan 1 = .ok (.ifCond .lt 14, 3) := by decide +kernel
theorem dX10_plan_4 : decode cX10_plan 4 = .ok (.iload_n 1, 1) := by decide +kernel
theorem dX10_plan_5 : decode cX10_plan 5 = .ok (.aload_n 0, 1) := by decide +kernel
theorem dX10_plan_6 : decode cX10_plan 6 = .ok (.getfield 10, 3) := by decide +kernel
theorem dX10_plan_9 : decode cX10_plan 9 = .ok (.getfield 115, 3) := by decide +kernel
theorem dX10_plan_12 : decode cX10_plan 12 = .ok (.if_icmp .le 9, 3) := by decide +kernel
theorem dX10_plan_15 : decode cX10_plan 15 = .ok (.aload_n 0, 1) := by decide +kernel
theorem dX10_plan_16 : decode cX10_plan 16 = .ok (.iconst 2, 1) := by decide +kernel
theorem dX10_plan_17 : decode cX10_plan 17 = .ok (.invokevirtual 73, 3) := by decide +kernel
theorem dX10_plan_20 : decode cX10_plan 20 = .ok (.ireturn, 1) := by decide +kernel
theorem dX10_plan_21 : decode cX10_plan 21 = .ok (.aload_n 0, 1) := by decide +kernel
theorem dX10_plan_22 : decode cX10_plan 22 = .ok (.getfield 10, 3) := by decide +kernel
theorem dX10_plan_25 : decode cX10_plan 25 = .ok (.iload_n 1, 1) := by decide +kernel
theorem dX10_plan_26 : decode cX10_plan 26 = .ok (.invokevirtual 122, 3) := by decide +kernel
theorem dX10_plan_29 : decode cX10_plan 29 = .ok (.aload_n 0, 1) := by decide +kernel
theorem dX10_plan_30 : decode cX10_plan 30 = .ok (.getfield 18, 3) := by decide +kernel
theorem dX10_plan_33 : decode cX10_plan 33 = .ok (.aload_n 0, 1) := by decide +kernel
theorem dX10_plan_34 : decode cX10_plan 34 = .ok (.getfield 52, 3) := by decide +kernel
theorem dX10_plan_37 : decode cX10_plan 37 = .ok (.aaload, 1) := by decide +kernel
theorem dX10_plan_38 : decode cX10_plan 38 = .ok (.aload_n 0, 1) := by decide +kernel
theorem dX10_plan_39 : decode cX10_plan 39 = .ok (.getfield 10, 3) := by decide +kernel
theorem dX10_plan_42 : decode cX10_plan 42 = .ok (.invokevirtual 125, 3) := by decide +kernel
theorem dX10_plan_45 : decode cX10_plan 45 = .ok (.ifCond .ne 9, 3) := by decide +kernel
theorem dX10_plan_48 : decode cX10_plan 48 = .ok (.aload_n 0, 1) := by decide +kernel
theorem dX10_plan_49 : decode cX10_plan 49 = .ok (.iconst 4, 1) := by decide +kernel
theorem dX10_plan_50 : decode cX10_plan 50 = .ok (.invokevirtual 73, 3) := by decide +kernel
theorem dX10_plan_53 : decode cX10_plan 53 = .ok (.ireturn, 1) := by decide +kernel
theorem dX10_plan_54 : decode cX10_plan 54 = .ok (.aload_n 0, 1) := by decide +kernel
theorem dX10_plan_55 : decode cX10_plan 55 = .ok (.getfield 52, 3) := by decide +kernel
theorem dX10_plan_58 : decode cX10_plan 58 = .ok (.bipush 8, 2) := by decide +kernel
theorem dX10_plan_60 : decode cX10_plan 60 = .ok (.if_icmp .lt 9, 3) := by decide +kernel
theorem dX10_plan_63 : decode cX10_plan 63 = .ok (.aload_n 0, 1) := by decide +kernel
theorem dX10_plan_64 : decode cX10_plan 64 = .ok (.iconst 3, 1) := by decide +kernel
theorem dX10_plan_65 : decode cX10_plan 65 = .ok (.invokevirtual 73, 3) := by decide +kernel
theorem dX10_plan_68 : decode cX10_plan 68 = .ok (.ireturn, 1) := by decide +kernel
theorem dX10_plan_69 : decode cX10_plan 69 = .ok (.aload_n 0, 1) := by decide +kernel
theorem dX10_plan_70 : decode cX10_plan 70 = .ok (.dup, 1) := by decide +kernel
theorem dX10_plan_71 : decode cX10_plan 71 = .ok (.getfield 52, 3) := by decide +kernel
theorem dX10_plan_74 : decode cX10_plan 74 = .ok (.iconst 1, 1) := by decide +kernel
theorem dX10_plan_75 : decode cX10_plan 75 = .ok (.iadd, 1) := by decide +kernel
theorem dX10_plan_76 : decode cX10_plan 76 = .ok (.putfield 52, 3) := by decide +kernel
theorem dX10_plan_79 : decode cX10_plan 79 = .ok (.aload_n 0, 1) := by decide +kernel
theorem dX10_plan_80 : decode cX10_plan 80 = .ok (.aload_n 0, 1) := by decide +kernel
theorem dX10_plan_81 : decode cX10_plan 81 = .ok (.getfield 52, 3) := by decide +kernel
theorem dX10_plan_84 : decode cX10_plan 84 = .ok (.iconst 1, 1) := by decide +kernel
theorem dX10_plan_85 : decode cX10_plan 85 = .ok (.isub, 1) := by decide +kernel
theorem dX10_plan_86 : decode cX10_plan 86 = .ok (.invokevirtual 94, 3) := by decide +kernel
theorem dX10_plan_89 : decode cX10_plan 89 = .ok (.ireturn, 1) := by decide +kernel
theorem dX10_laws_0 : decode cX10_laws 0 = .ok (.iload_n 1, 1) := by decide +kernel
theorem dX10_laws_1 : decode cX10_laws 1 = .ok (.ifCond .lt 14, 3) := by decide +kernel
theorem dX10_laws_4 : decode cX10_laws 4 = .ok (.iload_n 1, 1) := by decide +kernel
theorem dX10_laws_5 : decode cX10_laws 5 = .ok (.aload_n 0, 1) := by decide +kernel
theorem dX10_laws_6 : decode cX10_laws 6 = .ok (.getfield 10, 3) := by decide +kernel
theorem dX10_laws_9 : decode cX10_laws 9 = .ok (.getfield 115, 3) := by decide +kernel
theorem dX10_laws_12 : decode cX10_laws 12 = .ok (.if_icmp .le 9, 3) := by decide +kernel
theorem dX10_laws_15 : decode cX10_laws 15 = .ok (.aload_n 0, 1) := by decide +kernel
theorem dX10_laws_16 : decode cX10_laws 16 = .ok (.iconst 2, 1) := by decide +kernel
theorem dX10_laws_17 : decode cX10_laws 17 = .ok (.invokevirtual 73, 3) := by decide +kernel
theorem dX10_laws_20 : decode cX10_laws 20 = .ok (.ireturn, 1) := by decide +kernel
theorem dX10_laws_21 : decode cX10_laws 21 = .ok (.aload_n 0, 1) := by decide +kernel
theorem dX10_laws_22 : decode cX10_laws 22 = .ok (.getfield 10, 3) := by decide +kernel
theorem dX10_laws_25 : decode cX10_laws 25 = .ok (.iload_n 1, 1) := by decide +kernel
theorem dX10_laws_26 : decode cX10_laws 26 = .ok (.invokevirtual 122, 3) := by decide +kernel
theorem dX10_laws_29 : decode cX10_laws 29 = .ok (.aload_n 0, 1) := by decide +kernel
theorem dX10_laws_30 : decode cX10_laws 30 = .ok (.getfield 25, 3) := by decide +kernel
theorem dX10_laws_33 : decode cX10_laws 33 = .ok (.aload_n 0, 1) := by decide +kernel
theorem dX10_laws_34 : decode cX10_laws 34 = .ok (.getfield 10, 3) := by decide +kernel
theorem dX10_laws_37 : decode cX10_laws 37 = .ok (.invokevirtual 129, 3) := by decide +kernel
theorem dX10_laws_40 : decode cX10_laws 40 = .ok (.ifCond .ne 9, 3) := by decide +kernel
theorem dX10_laws_43 : decode cX10_laws 43 = .ok (.aload_n 0, 1) := by decide +kernel
theorem dX10_laws_44 : decode cX10_laws 44 = .ok (.iconst 4, 1) := by decide +kernel
theorem dX10_laws_45 : decode cX10_laws 45 = .ok (.invokevirtual 73, 3) := by decide +kernel
theorem dX10_laws_48 : decode cX10_laws 48 = .ok (.ireturn, 1) := by decide +kernel
theorem dX10_laws_49 : decode cX10_laws 49 = .ok (.aload_n 0, 1) := by decide +kernel
theorem dX10_laws_50 : decode cX10_laws 50 = .ok (.aload_n 0, 1) := by decide +kernel
theorem dX10_laws_51 : decode cX10_laws 51 = .ok (.getfield 25, 3) := by decide +kernel
theorem dX10_laws_54 : decode cX10_laws 54 = .ok (.getfield 130, 3) := by decide +kernel
theorem dX10_laws_57 : decode cX10_laws 57 = .ok (.invokevirtual 94, 3) := by decide +kernel
theorem dX10_laws_60 : decode cX10_laws 60 = .ok (.ireturn, 1) := by decide +kernel
theorem dX10_fault_0 : decode cX10_fault 0 = .ok (.aload_n 0, 1) := by decide +kernel
theorem dX10_fault_1 : decode cX10_fault 1 = .ok (.getfield 10, 3) := by decide +kernel
theorem dX10_fault_4 : decode cX10_fault 4 = .ok (.getfield 133, 3) := by decide +kernel
theorem dX10_fault_7 : decode cX10_fault 7 = .ok (.ireturn, 1) := by decide +kernel
theorem dX10_where_0 : decode cX10_where 0 = .ok (.aload_n 0, 1) := by decide +kernel
theorem dX10_where_1 : decode cX10_where 1 = .ok (.getfield 56, 3) := by decide +kernel
theorem dX10_where_4 : decode cX10_where 4 = .ok (.iconst 4, 1) := by decide +kernel
theorem dX10_where_5 : decode cX10_where 5 = .ok (.if_icmp .ne 13, 3) := by decide +kernel
theorem dX10_where_8 : decode cX10_where 8 = .ok (.aload_n 0, 1) := by decide +kernel
theorem dX10_where_9 : decode cX10_where 9 = .ok (.getfield 10, 3) := by decide +kernel
theorem dX10_where_12 : decode cX10_where 12 = .ok (.getfield 136, 3) := by decide +kernel
theorem dX10_where_15 : decode cX10_where 15 = .ok (.goto 4, 3) := by decide +kernel
theorem dX10_where_18 : decode cX10_where 18 = .ok (.iconst (-1), 1) := by decide +kernel
theorem dX10_where_19 : decode cX10_where 19 = .ok (.ireturn, 1) := by decide +kernel
theorem dX10_team_0 : decode cX10_team 0 = .ok (.aload_n 0, 1) := by decide +kernel
theorem dX10_team_1 : decode cX10_team 1 = .ok (.getfield 32, 3) := by decide +kernel
theorem dX10_team_4 : decode cX10_team 4 = .ok (.getfield 70, 3) := by decide +kernel
theorem dX10_team_7 : decode cX10_team 7 = .ok (.ifCond .gt 16, 3) := by decide +kernel
theorem dX10_team_10 : decode cX10_team 10 = .ok (.aload_n 0, 1) := by decide +kernel
theorem dX10_team_11 : decode cX10_team 11 = .ok (.getfield 32, 3) := by decide +kernel
theorem dX10_team_14 : decode cX10_team 14 = .ok (.getfield 81, 3) := by decide +kernel
theorem dX10_team_17 : decode cX10_team 17 = .ok (.getfield 85, 3) := by decide +kernel
theorem dX10_team_20 : decode cX10_team 20 = .ok (.ifCond .ne 9, 3) := by decide +kernel
theorem dX10_team_23 : decode cX10_team 23 = .ok (.aload_n 0, 1) := by decide +kernel
theorem dX10_team_24 : decode cX10_team 24 = .ok (.iconst 5, 1) := by decide +kernel
theorem dX10_team_25 : decode cX10_team 25 = .ok (.invokevirtual 73, 3) := by decide +kernel
theorem dX10_team_28 : decode cX10_team 28 = .ok (.ireturn, 1) := by decide +kernel
theorem dX10_team_29 : decode cX10_team 29 = .ok (.aload_n 0, 1) := by decide +kernel
theorem dX10_team_30 : decode cX10_team 30 = .ok (.iload 5, 2) := by decide +kernel
theorem dX10_team_32 : decode cX10_team 32 = .ok (.invokevirtual 139, 3) := by decide +kernel
theorem dX10_team_35 : decode cX10_team 35 = .ok (.ifCond .ne 9, 3) := by decide +kernel
theorem dX10_team_38 : decode cX10_team 38 = .ok (.aload_n 0, 1) := by decide +kernel
theorem dX10_team_39 : decode cX10_team 39 = .ok (.iconst 1, 1) := by decide +kernel
theorem dX10_team_40 : decode cX10_team 40 = .ok (.invokevirtual 73, 3) := by decide +kernel
theorem dX10_team_43 : decode cX10_team 43 = .ok (.ireturn, 1) := by decide +kernel
theorem dX10_team_44 : decode cX10_team 44 = .ok (.iload_n 1, 1) := by decide +kernel
theorem dX10_team_45 : decode cX10_team 45 = .ok (.iconst 4, 1) := by decide +kernel
theorem dX10_team_46 : decode cX10_team 46 = .ok (.bipush 16, 2) := by decide +kernel
theorem dX10_team_48 : decode cX10_team 48 = .ok (.invokestatic 77, 3) := by decide +kernel
theorem dX10_team_51 : decode cX10_team 51 = .ok (.ifCond .eq 36, 3) := by decide +kernel
theorem dX10_team_54 : decode cX10_team 54 = .ok (.iload_n 2, 1) := by decide +kernel
theorem dX10_team_55 : decode cX10_team 55 = .ok (.bipush 20, 2) := by decide +kernel
theorem dX10_team_57 : decode cX10_team 57 = .ok (.sipush 300, 3) := by decide +kernel
theorem dX10_team_60 : decode cX10_team 60 = .ok (.invokestatic 77, 3) := by decide +kernel
theorem dX10_team_63 : decode cX10_team 63 = .ok (.ifCond .eq 24, 3) := by decide +kernel
theorem dX10_team_66 : decode cX10_team 66 = .ok (.iload_n 3, 1) := by decide +kernel
theorem dX10_team_67 : decode cX10_team 67 = .ok (.iconst 0, 1) := by decide +kernel
theorem dX10_team_68 : decode cX10_team 68 = .ok (.bipush 60, 2) := by decide +kernel
theorem dX10_team_70 : decode cX10_team 70 = .ok (.invokestatic 77, 3) := by decide +kernel
theorem dX10_team_73 : decode cX10_team 73 = .ok (.ifCond .eq 14, 3) := by decide +kernel
theorem dX10_team_76 : decode cX10_team 76 = .ok (.iload 4, 2) := by decide +kernel
theorem dX10_team_78 : decode cX10_team 78 = .ok (.iconst 0, 1) := by decide +kernel
theorem dX10_team_79 : decode cX10_team 79 = .ok (.bipush 100, 2) := by decide +kernel
theorem dX10_team_81 : decode cX10_team 81 = .ok (.invokestatic 77, 3) := by decide +kernel
theorem dX10_team_84 : decode cX10_team 84 = .ok (.ifCond .ne 9, 3) := by decide +kernel
theorem dX10_team_87 : decode cX10_team 87 = .ok (.aload_n 0, 1) := by decide +kernel
theorem dX10_team_88 : decode cX10_team 88 = .ok (.iconst 2, 1) := by decide +kernel
theorem dX10_team_89 : decode cX10_team 89 = .ok (.invokevirtual 73, 3) := by decide +kernel
theorem dX10_team_92 : decode cX10_team 92 = .ok (.ireturn, 1) := by decide +kernel
theorem dX10_team_93 : decode cX10_team 93 = .ok (.aload_n 0, 1) := by decide +kernel
theorem dX10_team_94 : decode cX10_team 94 = .ok (.getfield 32, 3) := by decide +kernel
theorem dX10_team_97 : decode cX10_team 97 = .ok (.getfield 142, 3) := by decide +kernel
theorem dX10_team_100 : decode cX10_team 100 = .ok (.bipush 6, 2) := by decide +kernel
theorem dX10_team_102 : decode cX10_team 102 = .ok (.if_icmp .lt 9, 3) := by decide +kernel
theorem dX10_team_105 : decode cX10_team 105 = .ok (.aload_n 0, 1) := by decide +kernel
theorem dX10_team_106 : decode cX10_team 106 = .ok (.iconst 3, 1) := by decide +kernel
theorem dX10_team_107 : decode cX10_team 107 = .ok (.invokevirtual 73, 3) := by decide +kernel
theorem dX10_team_110 : decode cX10_team 110 = .ok (.ireturn, 1) := by decide +kernel
theorem dX10_team_111 : decode cX10_team 111 = .ok (.aload_n 0, 1) := by decide +kernel
theorem dX10_team_112 : decode cX10_team 112 = .ok (.getfield 32, 3) := by decide +kernel
theorem dX10_team_115 : decode cX10_team 115 = .ok (.getfield 142, 3) := by decide +kernel
theorem dX10_team_118 : decode cX10_team 118 = .ok (.istore 6, 2) := by decide +kernel
theorem dX10_team_120 : decode cX10_team 120 = .ok (.aload_n 0, 1) := by decide +kernel
theorem dX10_team_121 : decode cX10_team 121 = .ok (.getfield 32, 3) := by decide +kernel
theorem dX10_team_124 : decode cX10_team 124 = .ok (.getfield 145, 3) := by decide +kernel
theorem dX10_team_127 : decode cX10_team 127 = .ok (.iload 6, 2) := by decide +kernel
theorem dX10_team_129 : decode cX10_team 129 = .ok (.aaload, 1) := by decide +kernel
theorem dX10_team_130 : decode cX10_team 130 = .ok (.iload_n 1, 1) := by decide +kernel
theorem dX10_team_131 : decode cX10_team 131 = .ok (.iload_n 2, 1) := by decide +kernel
theorem dX10_team_132 : decode cX10_team 132 = .ok (.iload_n 3, 1) := by decide +kernel
theorem dX10_team_133 : decode cX10_team 133 = .ok (.iload 4, 2) := by decide +kernel
theorem dX10_team_135 : decode cX10_team 135 = .ok (.iload 5, 2) := by decide +kernel
theorem dX10_team_137 : decode cX10_team 137 = .ok (.invokevirtual 149, 3) := by decide +kernel
theorem dX10_team_140 : decode cX10_team 140 = .ok (.aload_n 0, 1) := by decide +kernel
theorem dX10_team_141 : decode cX10_team 141 = .ok (.getfield 32, 3) := by decide +kernel
theorem dX10_team_144 : decode cX10_team 144 = .ok (.dup, 1) := by decide +kernel
theorem dX10_team_145 : decode cX10_team 145 = .ok (.getfield 142, 3) := by decide +kernel
theorem dX10_team_148 : decode cX10_team 148 = .ok (.iconst 1, 1) := by decide +kernel
theorem dX10_team_149 : decode cX10_team 149 = .ok (.iadd, 1) := by decide +kernel
theorem dX10_team_150 : decode cX10_team 150 = .ok (.putfield 142, 3) := by decide +kernel
theorem dX10_team_153 : decode cX10_team 153 = .ok (.aload_n 0, 1) := by decide +kernel
theorem dX10_team_154 : decode cX10_team 154 = .ok (.iload 6, 2) := by decide +kernel
theorem dX10_team_156 : decode cX10_team 156 = .ok (.invokevirtual 94, 3) := by decide +kernel
theorem dX10_team_159 : decode cX10_team 159 = .ok (.ireturn, 1) := by decide +kernel
theorem dX10_follow_0 : decode cX10_follow 0 = .ok (.aload_n 0, 1) := by decide +kernel
theorem dX10_follow_1 : decode cX10_follow 1 = .ok (.iload_n 1, 1) := by decide +kernel
theorem dX10_follow_2 : decode cX10_follow 2 = .ok (.invokevirtual 153, 3) := by decide +kernel
theorem dX10_follow_5 : decode cX10_follow 5 = .ok (.ifCond .eq 11, 3) := by decide +kernel
theorem dX10_follow_8 : decode cX10_follow 8 = .ok (.aload_n 0, 1) := by decide +kernel
theorem dX10_follow_9 : decode cX10_follow 9 = .ok (.iload_n 2, 1) := by decide +kernel
theorem dX10_follow_10 : decode cX10_follow 10 = .ok (.invokevirtual 139, 3) := by decide +kernel
theorem dX10_follow_13 : decode cX10_follow 13 = .ok (.ifCond .ne 9, 3) := by decide +kernel
theorem dX10_follow_16 : decode cX10_follow 16 = .ok (.aload_n 0, 1) := by decide +kernel
theorem dX10_follow_17 : decode cX10_follow 17 = .ok (.iconst 1, 1) := by decide +kernel
theorem dX10_follow_18 : decode cX10_follow 18 = .ok (.invokevirtual 97, 3) := by decide +kernel
theorem dX10_follow_21 : decode cX10_follow 21 = .ok (.ireturn, 1) := by decide +kernel
theorem dX10_follow_22 : decode cX10_follow 22 = .ok (.aload_n 0, 1) := by decide +kernel
theorem dX10_follow_23 : decode cX10_follow 23 = .ok (.getfield 32, 3) := by decide +kernel
theorem dX10_follow_26 : decode cX10_follow 26 = .ok (.getfield 145, 3) := by decide +kernel
theorem dX10_follow_29 : decode cX10_follow 29 = .ok (.iload_n 1, 1) := by decide +kernel
theorem dX10_follow_30 : decode cX10_follow 30 = .ok (.aaload, 1) := by decide +kernel
theorem dX10_follow_31 : decode cX10_follow 31 = .ok (.astore_n 3, 1) := by decide +kernel
theorem dX10_follow_32 : decode cX10_follow 32 = .ok (.aload_n 3, 1) := by decide +kernel
theorem dX10_follow_33 : decode cX10_follow 33 = .ok (.invokevirtual 156, 3) := by decide +kernel
theorem dX10_follow_36 : decode cX10_follow 36 = .ok (.ifCond .eq 9, 3) := by decide +kernel
theorem dX10_follow_39 : decode cX10_follow 39 = .ok (.aload_n 0, 1) := by decide +kernel
theorem dX10_follow_40 : decode cX10_follow 40 = .ok (.iconst 5, 1) := by decide +kernel
theorem dX10_follow_41 : decode cX10_follow 41 = .ok (.invokevirtual 97, 3) := by decide +kernel
theorem dX10_follow_44 : decode cX10_follow 44 = .ok (.ireturn, 1) := by decide +kernel
theorem dX10_follow_45 : decode cX10_follow 45 = .ok (.aload_n 3, 1) := by decide +kernel
theorem dX10_follow_46 : decode cX10_follow 46 = .ok (.iload_n 2, 1) := by decide +kernel
theorem dX10_follow_47 : decode cX10_follow 47 = .ok (.putfield 159, 3) := by decide +kernel
theorem dX10_follow_50 : decode cX10_follow 50 = .ok (.aload_n 0, 1) := by decide +kernel
theorem dX10_follow_51 : decode cX10_follow 51 = .ok (.invokevirtual 111, 3) := by decide +kernel
theorem dX10_follow_54 : decode cX10_follow 54 = .ok (.ireturn, 1) := by decide +kernel
theorem dX10_gap_0 : decode cX10_gap 0 = .ok (.aload_n 0, 1) := by decide +kernel
theorem dX10_gap_1 : decode cX10_gap 1 = .ok (.iload_n 1, 1) := by decide +kernel
theorem dX10_gap_2 : decode cX10_gap 2 = .ok (.invokevirtual 153, 3) := by decide +kernel
theorem dX10_gap_5 : decode cX10_gap 5 = .ok (.ifCond .ne 9, 3) := by decide +kernel
theorem dX10_gap_8 : decode cX10_gap 8 = .ok (.aload_n 0, 1) := by decide +kernel
theorem dX10_gap_9 : decode cX10_gap 9 = .ok (.iconst 1, 1) := by decide +kernel
theorem dX10_gap_10 : decode cX10_gap 10 = .ok (.invokevirtual 73, 3) := by decide +kernel
theorem dX10_gap_13 : decode cX10_gap 13 = .ok (.ireturn, 1) := by decide +kernel
theorem dX10_gap_14 : decode cX10_gap 14 = .ok (.iload_n 2, 1) := by decide +kernel
theorem dX10_gap_15 : decode cX10_gap 15 = .ok (.ifCond .lt 15, 3) := by decide +kernel
theorem dX10_gap_18 : decode cX10_gap 18 = .ok (.iload_n 3, 1) := by decide +kernel
theorem dX10_gap_19 : decode cX10_gap 19 = .ok (.sipush 2000, 3) := by decide +kernel
theorem dX10_gap_22 : decode cX10_gap 22 = .ok (.if_icmp .gt 8, 3) := by decide +kernel
theorem dX10_gap_25 : decode cX10_gap 25 = .ok (.iload_n 2, 1) := by decide +kernel
theorem dX10_gap_26 : decode cX10_gap 26 = .ok (.iload_n 3, 1) := by decide +kernel
theorem dX10_gap_27 : decode cX10_gap 27 = .ok (.if_icmp .le 9, 3) := by decide +kernel
theorem dX10_gap_30 : decode cX10_gap 30 = .ok (.aload_n 0, 1) := by decide +kernel
theorem dX10_gap_31 : decode cX10_gap 31 = .ok (.iconst 2, 1) := by decide +kernel
theorem dX10_gap_32 : decode cX10_gap 32 = .ok (.invokevirtual 73, 3) := by decide +kernel
theorem dX10_gap_35 : decode cX10_gap 35 = .ok (.ireturn, 1) := by decide +kernel
theorem dX10_gap_36 : decode cX10_gap 36 = .ok (.aload_n 0, 1) := by decide +kernel
theorem dX10_gap_37 : decode cX10_gap 37 = .ok (.getfield 32, 3) := by decide +kernel
theorem dX10_gap_40 : decode cX10_gap 40 = .ok (.getfield 145, 3) := by decide +kernel
theorem dX10_gap_43 : decode cX10_gap 43 = .ok (.iload_n 1, 1) := by decide +kernel
theorem dX10_gap_44 : decode cX10_gap 44 = .ok (.aaload, 1) := by decide +kernel
theorem dX10_gap_45 : decode cX10_gap 45 = .ok (.getfield 162, 3) := by decide +kernel
theorem dX10_gap_48 : decode cX10_gap 48 = .ok (.astore 4, 2) := by decide +kernel
theorem dX10_gap_50 : decode cX10_gap 50 = .ok (.aload 4, 2) := by decide +kernel
theorem dX10_gap_52 : decode cX10_gap 52 = .ok (.getfield 166, 3) := by decide +kernel
theorem dX10_gap_55 : decode cX10_gap 55 = .ok (.iconst 4, 1) := by decide +kernel
theorem dX10_gap_56 : decode cX10_gap 56 = .ok (.if_icmp .lt 9, 3) := by decide +kernel
theorem dX10_gap_59 : decode cX10_gap 59 = .ok (.aload_n 0, 1) := by decide +kernel
theorem dX10_gap_60 : decode cX10_gap 60 = .ok (.iconst 3, 1) := by decide +kernel
theorem dX10_gap_61 : decode cX10_gap 61 = .ok (.invokevirtual 73, 3) := by decide +kernel
theorem dX10_gap_64 : decode cX10_gap 64 = .ok (.ireturn, 1) := by decide +kernel
theorem dX10_gap_65 : decode cX10_gap 65 = .ok (.aload 4, 2) := by decide +kernel
theorem dX10_gap_67 : decode cX10_gap 67 = .ok (.iload_n 2, 1) := by decide +kernel
theorem dX10_gap_68 : decode cX10_gap 68 = .ok (.iload_n 3, 1) := by decide +kernel
theorem dX10_gap_69 : decode cX10_gap 69 = .ok (.invokevirtual 169, 3) := by decide +kernel
theorem dX10_gap_72 : decode cX10_gap 72 = .ok (.aload_n 0, 1) := by decide +kernel
theorem dX10_gap_73 : decode cX10_gap 73 = .ok (.aload 4, 2) := by decide +kernel
theorem dX10_gap_75 : decode cX10_gap 75 = .ok (.getfield 166, 3) := by decide +kernel
theorem dX10_gap_78 : decode cX10_gap 78 = .ok (.invokevirtual 94, 3) := by decide +kernel
theorem dX10_gap_81 : decode cX10_gap 81 = .ok (.ireturn, 1) := by decide +kernel
theorem dX10_each_0 : decode cX10_each 0 = .ok (.aload_n 0, 1) := by decide +kernel
theorem dX10_each_1 : decode cX10_each 1 = .ok (.getfield 32, 3) := by decide +kernel
theorem dX10_each_4 : decode cX10_each 4 = .ok (.getfield 70, 3) := by decide +kernel
theorem dX10_each_7 : decode cX10_each 7 = .ok (.ifCond .le 9, 3) := by decide +kernel
theorem dX10_each_10 : decode cX10_each 10 = .ok (.aload_n 0, 1) := by decide +kernel
theorem dX10_each_11 : decode cX10_each 11 = .ok (.iconst 5, 1) := by decide +kernel
theorem dX10_each_12 : decode cX10_each 12 = .ok (.invokevirtual 97, 3) := by decide +kernel
theorem dX10_each_15 : decode cX10_each 15 = .ok (.ireturn, 1) := by decide +kernel
theorem dX10_each_16 : decode cX10_each 16 = .ok (.iload_n 1, 1) := by decide +kernel
theorem dX10_each_17 : decode cX10_each 17 = .ok (.iconst 1, 1) := by decide +kernel
theorem dX10_each_18 : decode cX10_each 18 = .ok (.bipush 48, 2) := by decide +kernel
theorem dX10_each_20 : decode cX10_each 20 = .ok (.invokestatic 77, 3) := by decide +kernel
theorem dX10_each_23 : decode cX10_each 23 = .ok (.ifCond .ne 9, 3) := by decide +kernel
theorem dX10_each_26 : decode cX10_each 26 = .ok (.aload_n 0, 1) := by decide +kernel
theorem dX10_each_27 : decode cX10_each 27 = .ok (.iconst 2, 1) := by decide +kernel
theorem dX10_each_28 : decode cX10_each 28 = .ok (.invokevirtual 97, 3) := by decide +kernel
theorem dX10_each_31 : decode cX10_each 31 = .ok (.ireturn, 1) := by decide +kernel
theorem dX10_each_32 : decode cX10_each 32 = .ok (.aload_n 0, 1) := by decide +kernel
theorem dX10_each_33 : decode cX10_each 33 = .ok (.getfield 32, 3) := by decide +kernel
theorem dX10_each_36 : decode cX10_each 36 = .ok (.iload_n 1, 1) := by decide +kernel
theorem dX10_each_37 : decode cX10_each 37 = .ok (.putfield 170, 3) := by decide +kernel
theorem dX10_each_40 : decode cX10_each 40 = .ok (.aload_n 0, 1) := by decide +kernel
theorem dX10_each_41 : decode cX10_each 41 = .ok (.invokevirtual 111, 3) := by decide +kernel
theorem dX10_each_44 : decode cX10_each 44 = .ok (.ireturn, 1) := by decide +kernel
theorem dX10_run_0 : decode cX10_run 0 = .ok (.aload_n 0, 1) := by decide +kernel
theorem dX10_run_1 : decode cX10_run 1 = .ok (.getfield 32, 3) := by decide +kernel
theorem dX10_run_4 : decode cX10_run 4 = .ok (.invokevirtual 173, 3) := by decide +kernel
theorem dX10_run_7 : decode cX10_run 7 = .ok (.ifCond .ne 9, 3) := by decide +kernel
theorem dX10_run_10 : decode cX10_run 10 = .ok (.aload_n 0, 1) := by decide +kernel
theorem dX10_run_11 : decode cX10_run 11 = .ok (.iconst 5, 1) := by decide +kernel
theorem dX10_run_12 : decode cX10_run 12 = .ok (.invokevirtual 73, 3) := by decide +kernel
theorem dX10_run_15 : decode cX10_run 15 = .ok (.ireturn, 1) := by decide +kernel
theorem dX10_run_16 : decode cX10_run 16 = .ok (.iload_n 1, 1) := by decide +kernel
theorem dX10_run_17 : decode cX10_run 17 = .ok (.iconst 1, 1) := by decide +kernel
theorem dX10_run_18 : decode cX10_run 18 = .ok (.sipush 500, 3) := by decide +kernel
theorem dX10_run_21 : decode cX10_run 21 = .ok (.invokestatic 77, 3) := by decide +kernel
theorem dX10_run_24 : decode cX10_run 24 = .ok (.ifCond .ne 9, 3) := by decide +kernel
theorem dX10_run_27 : decode cX10_run 27 = .ok (.aload_n 0, 1) := by decide +kernel
theorem dX10_run_28 : decode cX10_run 28 = .ok (.iconst 2, 1) := by decide +kernel
theorem dX10_run_29 : decode cX10_run 29 = .ok (.invokevirtual 73, 3) := by decide +kernel
theorem dX10_run_32 : decode cX10_run 32 = .ok (.ireturn, 1) := by decide +kernel
theorem dX10_run_33 : decode cX10_run 33 = .ok (.iconst 0, 1) := by decide +kernel
theorem dX10_run_34 : decode cX10_run 34 = .ok (.istore_n 2, 1) := by decide +kernel
theorem dX10_run_35 : decode cX10_run 35 = .ok (.iload_n 2, 1) := by decide +kernel
theorem dX10_run_36 : decode cX10_run 36 = .ok (.iload_n 1, 1) := by decide +kernel
theorem dX10_run_37 : decode cX10_run 37 = .ok (.if_icmp .ge 23, 3) := by decide +kernel
theorem dX10_run_40 : decode cX10_run 40 = .ok (.aload_n 0, 1) := by decide +kernel
theorem dX10_run_41 : decode cX10_run 41 = .ok (.getfield 32, 3) := by decide +kernel
theorem dX10_run_44 : decode cX10_run 44 = .ok (.invokevirtual 173, 3) := by decide +kernel
theorem dX10_run_47 : decode cX10_run 47 = .ok (.ifCond .eq 13, 3) := by decide +kernel
theorem dX10_run_50 : decode cX10_run 50 = .ok (.aload_n 0, 1) := by decide +kernel
theorem dX10_run_51 : decode cX10_run 51 = .ok (.invokevirtual 176, 3) := by decide +kernel
theorem dX10_run_54 : decode cX10_run 54 = .ok (.iinc 2 1, 3) := by decide +kernel
theorem dX10_run_57 : decode cX10_run 57 = .ok (.goto (-22), 3) := by decide +kernel
theorem dX10_run_60 : decode cX10_run 60 = .ok (.aload_n 0, 1) := by decide +kernel
theorem dX10_run_61 : decode cX10_run 61 = .ok (.iload_n 2, 1) := by decide +kernel
theorem dX10_run_62 : decode cX10_run 62 = .ok (.invokevirtual 94, 3) := by decide +kernel
theorem dX10_run_65 : decode cX10_run 65 = .ok (.ireturn, 1) := by decide +kernel
theorem dX10_about_0 : decode cX10_about 0 = .ok (.aload_n 0, 1) := by decide +kernel
theorem dX10_about_1 : decode cX10_about 1 = .ok (.iload_n 1, 1) := by decide +kernel
theorem dX10_about_2 : decode cX10_about 2 = .ok (.invokevirtual 153, 3) := by decide +kernel
theorem dX10_about_5 : decode cX10_about 5 = .ok (.ifCond .ne 5, 3) := by decide +kernel
theorem dX10_about_8 : decode cX10_about 8 = .ok (.iconst (-1), 1) := by decide +kernel
theorem dX10_about_9 : decode cX10_about 9 = .ok (.ireturn, 1) := by decide +kernel
theorem dX10_about_10 : decode cX10_about 10 = .ok (.aload_n 0, 1) := by decide +kernel
theorem dX10_about_11 : decode cX10_about 11 = .ok (.getfield 32, 3) := by decide +kernel
theorem dX10_about_14 : decode cX10_about 14 = .ok (.getfield 145, 3) := by decide +kernel
theorem dX10_about_17 : decode cX10_about 17 = .ok (.iload_n 1, 1) := by decide +kernel
theorem dX10_about_18 : decode cX10_about 18 = .ok (.aaload, 1) := by decide +kernel
theorem dX10_about_19 : decode cX10_about 19 = .ok (.astore_n 3, 1) := by decide +kernel
theorem dX10_about_20 : decode cX10_about 20 = .ok (.iload_n 2, 1) := by decide +kernel
theorem dX10_about_21 : decode cX10_about 21 = .ok (.tableswitch 164 0 12 #[67, 72, 77, 82, 94, 102, 110, 134, 139, 144, 149, 154, 159], 67) := by decide +kernel
theorem dX10_about_88 : decode cX10_about 88 = .ok (.aload_n 3, 1) := by decide +kernel
theorem dX10_about_89 : decode cX10_about 89 = .ok (.getfield 179, 3) := by decide +kernel
theorem dX10_about_92 : decode cX10_about 92 = .ok (.ireturn, 1) := by decide +kernel
theorem dX10_about_93 : decode cX10_about 93 = .ok (.aload_n 3, 1) := by decide +kernel
theorem dX10_about_94 : decode cX10_about 94 = .ok (.getfield 182, 3) := by decide +kernel
theorem dX10_about_97 : decode cX10_about 97 = .ok (.ireturn, 1) := by decide +kernel
theorem dX10_about_98 : decode cX10_about 98 = .ok (.aload_n 3, 1) := by decide +kernel
theorem dX10_about_99 : decode cX10_about 99 = .ok (.getfield 185, 3) := by decide +kernel
theorem dX10_about_102 : decode cX10_about 102 = .ok (.ireturn, 1) := by decide +kernel
theorem dX10_about_103 : decode cX10_about 103 = .ok (.aload_n 3, 1) := by decide +kernel
theorem dX10_about_104 : decode cX10_about 104 = .ok (.aload_n 0, 1) := by decide +kernel
theorem dX10_about_105 : decode cX10_about 105 = .ok (.getfield 32, 3) := by decide +kernel
theorem dX10_about_108 : decode cX10_about 108 = .ok (.getfield 81, 3) := by decide +kernel
theorem dX10_about_111 : decode cX10_about 111 = .ok (.invokevirtual 188, 3) := by decide +kernel
theorem dX10_about_114 : decode cX10_about 114 = .ok (.ireturn, 1) := by decide +kernel
theorem dX10_about_115 : decode cX10_about 115 = .ok (.aload_n 3, 1) := by decide +kernel
theorem dX10_about_116 : decode cX10_about 116 = .ok (.getfield 192, 3) := by decide +kernel
theorem dX10_about_119 : decode cX10_about 119 = .ok (.getfield 196, 3) := by decide +kernel
theorem dX10_about_122 : decode cX10_about 122 = .ok (.ireturn, 1) := by decide +kernel
theorem dX10_about_123 : decode cX10_about 123 = .ok (.aload_n 3, 1) := by decide +kernel
theorem dX10_about_124 : decode cX10_about 124 = .ok (.getfield 192, 3) := by decide +kernel
theorem dX10_about_127 : decode cX10_about 127 = .ok (.getfield 201, 3) := by decide +kernel
theorem dX10_about_130 : decode cX10_about 130 = .ok (.ireturn, 1) := by decide +kernel
theorem dX10_about_131 : decode cX10_about 131 = .ok (.aload_n 3, 1) := by decide +kernel
theorem dX10_about_132 : decode cX10_about 132 = .ok (.getfield 192, 3) := by decide +kernel
theorem dX10_about_135 : decode cX10_about 135 = .ok (.getfield 204, 3) := by decide +kernel
theorem dX10_about_138 : decode cX10_about 138 = .ok (.aload_n 3, 1) := by decide +kernel
theorem dX10_about_139 : decode cX10_about 139 = .ok (.getfield 192, 3) := by decide +kernel
theorem dX10_about_142 : decode cX10_about 142 = .ok (.getfield 196, 3) := by decide +kernel
theorem dX10_about_145 : decode cX10_about 145 = .ok (.isub, 1) := by decide +kernel
theorem dX10_about_146 : decode cX10_about 146 = .ok (.aload_n 3, 1) := by decide +kernel
theorem dX10_about_147 : decode cX10_about 147 = .ok (.getfield 192, 3) := by decide +kernel
theorem dX10_about_150 : decode cX10_about 150 = .ok (.getfield 201, 3) := by decide +kernel
theorem dX10_about_153 : decode cX10_about 153 = .ok (.isub, 1) := by decide +kernel
theorem dX10_about_154 : decode cX10_about 154 = .ok (.ireturn, 1) := by decide +kernel
theorem dX10_about_155 : decode cX10_about 155 = .ok (.aload_n 3, 1) := by decide +kernel
theorem dX10_about_156 : decode cX10_about 156 = .ok (.invokevirtual 205, 3) := by decide +kernel
theorem dX10_about_159 : decode cX10_about 159 = .ok (.ireturn, 1) := by decide +kernel
theorem dX10_about_160 : decode cX10_about 160 = .ok (.aload_n 3, 1) := by decide +kernel
theorem dX10_about_161 : decode cX10_about 161 = .ok (.getfield 209, 3) := by decide +kernel
theorem dX10_about_164 : decode cX10_about 164 = .ok (.ireturn, 1) := by decide +kernel
theorem dX10_about_165 : decode cX10_about 165 = .ok (.aload_n 3, 1) := by decide +kernel
theorem dX10_about_166 : decode cX10_about 166 = .ok (.getfield 212, 3) := by decide +kernel
theorem dX10_about_169 : decode cX10_about 169 = .ok (.ireturn, 1) := by decide +kernel
theorem dX10_about_170 : decode cX10_about 170 = .ok (.aload_n 3, 1) := by decide +kernel
theorem dX10_about_171 : decode cX10_about 171 = .ok (.getfield 215, 3) := by decide +kernel
theorem dX10_about_174 : decode cX10_about 174 = .ok (.ireturn, 1) := by decide +kernel
theorem dX10_about_175 : decode cX10_about 175 = .ok (.aload_n 3, 1) := by decide +kernel
theorem dX10_about_176 : decode cX10_about 176 = .ok (.getfield 159, 3) := by decide +kernel
theorem dX10_about_179 : decode cX10_about 179 = .ok (.ireturn, 1) := by decide +kernel
theorem dX10_about_180 : decode cX10_about 180 = .ok (.aload_n 3, 1) := by decide +kernel
theorem dX10_about_181 : decode cX10_about 181 = .ok (.getfield 218, 3) := by decide +kernel
theorem dX10_about_184 : decode cX10_about 184 = .ok (.ireturn, 1) := by decide +kernel
theorem dX10_about_185 : decode cX10_about 185 = .ok (.iconst (-1), 1) := by decide +kernel
theorem dX10_about_186 : decode cX10_about 186 = .ok (.ireturn, 1) := by decide +kernel
theorem dX10_dog_0 : decode cX10_dog 0 = .ok (.aload_n 0, 1) := by decide +kernel
theorem dX10_dog_1 : decode cX10_dog 1 = .ok (.iload_n 1, 1) := by decide +kernel
theorem dX10_dog_2 : decode cX10_dog 2 = .ok (.invokevirtual 153, 3) := by decide +kernel
theorem dX10_dog_5 : decode cX10_dog 5 = .ok (.ifCond .ne 5, 3) := by decide +kernel
theorem dX10_dog_8 : decode cX10_dog 8 = .ok (.iconst (-1), 1) := by decide +kernel
theorem dX10_dog_9 : decode cX10_dog 9 = .ok (.ireturn, 1) := by decide +kernel
theorem dX10_dog_10 : decode cX10_dog 10 = .ok (.aload_n 0, 1) := by decide +kernel
theorem dX10_dog_11 : decode cX10_dog 11 = .ok (.getfield 32, 3) := by decide +kernel
theorem dX10_dog_14 : decode cX10_dog 14 = .ok (.getfield 145, 3) := by decide +kernel
theorem dX10_dog_17 : decode cX10_dog 17 = .ok (.iload_n 1, 1) := by decide +kernel
theorem dX10_dog_18 : decode cX10_dog 18 = .ok (.aaload, 1) := by decide +kernel
theorem dX10_dog_19 : decode cX10_dog 19 = .ok (.getfield 192, 3) := by decide +kernel
theorem dX10_dog_22 : decode cX10_dog 22 = .ok (.astore 4, 2) := by decide +kernel
theorem dX10_dog_24 : decode cX10_dog 24 = .ok (.iload_n 2, 1) := by decide +kernel
theorem dX10_dog_25 : decode cX10_dog 25 = .ok (.ifCond .lt 12, 3) := by decide +kernel
theorem dX10_dog_28 : decode cX10_dog 28 = .ok (.iload_n 2, 1) := by decide +kernel
theorem dX10_dog_29 : decode cX10_dog 29 = .ok (.aload 4, 2) := by decide +kernel
theorem dX10_dog_31 : decode cX10_dog 31 = .ok (.getfield 204, 3) := by decide +kernel
theorem dX10_dog_34 : decode cX10_dog 34 = .ok (.if_icmp .lt 5, 3) := by decide +kernel
theorem dX10_dog_37 : decode cX10_dog 37 = .ok (.iconst (-1), 1) := by decide +kernel
theorem dX10_dog_38 : decode cX10_dog 38 = .ok (.ireturn, 1) := by decide +kernel
theorem dX10_dog_39 : decode cX10_dog 39 = .ok (.iload_n 3, 1) := by decide +kernel
theorem dX10_dog_40 : decode cX10_dog 40 = .ok (.tableswitch 52 0 2 #[28, 36, 44], 28) := by decide +kernel
theorem dX10_dog_68 : decode cX10_dog 68 = .ok (.aload 4, 2) := by decide +kernel
theorem dX10_dog_70 : decode cX10_dog 70 = .ok (.getfield 221, 3) := by decide +kernel
theorem dX10_dog_73 : decode cX10_dog 73 = .ok (.iload_n 2, 1) := by decide +kernel
theorem dX10_dog_74 : decode cX10_dog 74 = .ok (.iaload, 1) := by decide +kernel
theorem dX10_dog_75 : decode cX10_dog 75 = .ok (.ireturn, 1) := by decide +kernel
theorem dX10_dog_76 : decode cX10_dog 76 = .ok (.aload 4, 2) := by decide +kernel
theorem dX10_dog_78 : decode cX10_dog 78 = .ok (.getfield 224, 3) := by decide +kernel
theorem dX10_dog_81 : decode cX10_dog 81 = .ok (.iload_n 2, 1) := by decide +kernel
theorem dX10_dog_82 : decode cX10_dog 82 = .ok (.iaload, 1) := by decide +kernel
theorem dX10_dog_83 : decode cX10_dog 83 = .ok (.ireturn, 1) := by decide +kernel
theorem dX10_dog_84 : decode cX10_dog 84 = .ok (.aload 4, 2) := by decide +kernel
theorem dX10_dog_86 : decode cX10_dog 86 = .ok (.getfield 227, 3) := by decide +kernel
theorem dX10_dog_89 : decode cX10_dog 89 = .ok (.iload_n 2, 1) := by decide +kernel
theorem dX10_dog_90 : decode cX10_dog 90 = .ok (.iaload, 1) := by decide +kernel
theorem dX10_dog_91 : decode cX10_dog 91 = .ok (.ireturn, 1) := by decide +kernel
theorem dX10_dog_92 : decode cX10_dog 92 = .ok (.iconst (-1), 1) := by decide +kernel
theorem dX10_dog_93 : decode cX10_dog 93 = .ok (.ireturn, 1) := by decide +kernel
theorem dX10_time_0 : decode cX10_time 0 = .ok (.aload_n 0, 1) := by decide +kernel
theorem dX10_time_1 : decode cX10_time 1 = .ok (.iload_n 1, 1) := by decide +kernel
theorem dX10_time_2 : decode cX10_time 2 = .ok (.invokevirtual 153, 3) := by decide +kernel
theorem dX10_time_5 : decode cX10_time 5 = .ok (.ifCond .eq 11, 3) := by decide +kernel
theorem dX10_time_8 : decode cX10_time 8 = .ok (.aload_n 0, 1) := by decide +kernel
theorem dX10_time_9 : decode cX10_time 9 = .ok (.iload_n 2, 1) := by decide +kernel
theorem dX10_time_10 : decode cX10_time 10 = .ok (.invokevirtual 230, 3) := by decide +kernel
theorem dX10_time_13 : decode cX10_time 13 = .ok (.ifCond .ne 5, 3) := by decide +kernel
theorem dX10_time_16 : decode cX10_time 16 = .ok (.iconst (-1), 1) := by decide +kernel
theorem dX10_time_17 : decode cX10_time 17 = .ok (.ireturn, 1) := by decide +kernel
theorem dX10_time_18 : decode cX10_time 18 = .ok (.aload_n 0, 1) := by decide +kernel
theorem dX10_time_19 : decode cX10_time 19 = .ok (.getfield 32, 3) := by decide +kernel
theorem dX10_time_22 : decode cX10_time 22 = .ok (.getfield 145, 3) := by decide +kernel
theorem dX10_time_25 : decode cX10_time 25 = .ok (.iload_n 1, 1) := by decide +kernel
theorem dX10_time_26 : decode cX10_time 26 = .ok (.aaload, 1) := by decide +kernel
theorem dX10_time_27 : decode cX10_time 27 = .ok (.astore 4, 2) := by decide +kernel
theorem dX10_time_29 : decode cX10_time 29 = .ok (.iload_n 3, 1) := by decide +kernel
theorem dX10_time_30 : decode cX10_time 30 = .ok (.ifCond .eq 13, 3) := by decide +kernel
theorem dX10_time_33 : decode cX10_time 33 = .ok (.aload 4, 2) := by decide +kernel
theorem dX10_time_35 : decode cX10_time 35 = .ok (.getfield 233, 3) := by decide +kernel
theorem dX10_time_38 : decode cX10_time 38 = .ok (.iload_n 2, 1) := by decide +kernel
theorem dX10_time_39 : decode cX10_time 39 = .ok (.iaload, 1) := by decide +kernel
theorem dX10_time_40 : decode cX10_time 40 = .ok (.goto 10, 3) := by decide +kernel
theorem dX10_time_43 : decode cX10_time 43 = .ok (.aload 4, 2) := by decide +kernel
theorem dX10_time_45 : decode cX10_time 45 = .ok (.getfield 236, 3) := by decide +kernel
theorem dX10_time_48 : decode cX10_time 48 = .ok (.iload_n 2, 1) := by decide +kernel
theorem dX10_time_49 : decode cX10_time 49 = .ok (.iaload, 1) := by decide +kernel
theorem dX10_time_50 : decode cX10_time 50 = .ok (.ireturn, 1) := by decide +kernel
theorem dX10_did_0 : decode cX10_did 0 = .ok (.aload_n 0, 1) := by decide +kernel
theorem dX10_did_1 : decode cX10_did 1 = .ok (.iload_n 1, 1) := by decide +kernel
theorem dX10_did_2 : decode cX10_did 2 = .ok (.invokevirtual 153, 3) := by decide +kernel
theorem dX10_did_5 : decode cX10_did 5 = .ok (.ifCond .eq 18, 3) := by decide +kernel
theorem dX10_did_8 : decode cX10_did 8 = .ok (.aload_n 0, 1) := by decide +kernel
theorem dX10_did_9 : decode cX10_did 9 = .ok (.getfield 32, 3) := by decide +kernel
theorem dX10_did_12 : decode cX10_did 12 = .ok (.getfield 145, 3) := by decide +kernel
theorem dX10_did_15 : decode cX10_did 15 = .ok (.iload_n 1, 1) := by decide +kernel
theorem dX10_did_16 : decode cX10_did 16 = .ok (.aaload, 1) := by decide +kernel
theorem dX10_did_17 : decode cX10_did 17 = .ok (.getfield 239, 3) := by decide +kernel
theorem dX10_did_20 : decode cX10_did 20 = .ok (.goto 4, 3) := by decide +kernel
theorem dX10_did_23 : decode cX10_did 23 = .ok (.iconst (-1), 1) := by decide +kernel
theorem dX10_did_24 : decode cX10_did 24 = .ok (.ireturn, 1) := by decide +kernel
theorem dX10_result_0 : decode cX10_result 0 = .ok (.aload_n 0, 1) := by decide +kernel
theorem dX10_result_1 : decode cX10_result 1 = .ok (.iload_n 1, 1) := by decide +kernel
theorem dX10_result_2 : decode cX10_result 2 = .ok (.invokevirtual 242, 3) := by decide +kernel
theorem dX10_result_5 : decode cX10_result 5 = .ok (.ifCond .eq 32, 3) := by decide +kernel
theorem dX10_result_8 : decode cX10_result 8 = .ok (.aload_n 0, 1) := by decide +kernel
theorem dX10_result_9 : decode cX10_result 9 = .ok (.getfield 25, 3) := by decide +kernel
theorem dX10_result_12 : decode cX10_result 12 = .ok (.aload_n 0, 1) := by decide +kernel
theorem dX10_result_13 : decode cX10_result 13 = .ok (.getfield 32, 3) := by decide +kernel
theorem dX10_result_16 : decode cX10_result 16 = .ok (.getfield 145, 3) := by decide +kernel
theorem dX10_result_19 : decode cX10_result 19 = .ok (.iload_n 1, 1) := by decide +kernel
theorem dX10_result_20 : decode cX10_result 20 = .ok (.aaload, 1) := by decide +kernel
theorem dX10_result_21 : decode cX10_result 21 = .ok (.aload_n 0, 1) := by decide +kernel
theorem dX10_result_22 : decode cX10_result 22 = .ok (.getfield 32, 3) := by decide +kernel
theorem dX10_result_25 : decode cX10_result 25 = .ok (.getfield 81, 3) := by decide +kernel
theorem dX10_result_28 : decode cX10_result 28 = .ok (.getfield 85, 3) := by decide +kernel
theorem dX10_result_31 : decode cX10_result 31 = .ok (.invokevirtual 245, 3) := by decide +kernel
theorem dX10_result_34 : decode cX10_result 34 = .ok (.goto 4, 3) := by decide +kernel
theorem dX10_result_37 : decode cX10_result 37 = .ok (.iconst (-1), 1) := by decide +kernel
theorem dX10_result_38 : decode cX10_result 38 = .ok (.ireturn, 1) := by decide +kernel
theorem dX10_lacks_0 : decode cX10_lacks 0 = .ok (.aload_n 0, 1) := by decide +kernel
theorem dX10_lacks_1 : decode cX10_lacks 1 = .ok (.iload_n 1, 1) := by decide +kernel
theorem dX10_lacks_2 : decode cX10_lacks 2 = .ok (.invokevirtual 242, 3) := by decide +kernel
theorem dX10_lacks_5 : decode cX10_lacks 5 = .ok (.ifCond .eq 11, 3) := by decide +kernel
theorem dX10_lacks_8 : decode cX10_lacks 8 = .ok (.aload_n 0, 1) := by decide +kernel
theorem dX10_lacks_9 : decode cX10_lacks 9 = .ok (.iload_n 2, 1) := by decide +kernel
theorem dX10_lacks_10 : decode cX10_lacks 10 = .ok (.invokevirtual 249, 3) := by decide +kernel
theorem dX10_lacks_13 : decode cX10_lacks 13 = .ok (.ifCond .ne 5, 3) := by decide +kernel
theorem dX10_lacks_16 : decode cX10_lacks 16 = .ok (.iconst (-1), 1) := by decide +kernel
theorem dX10_lacks_17 : decode cX10_lacks 17 = .ok (.ireturn, 1) := by decide +kernel
theorem dX10_lacks_18 : decode cX10_lacks 18 = .ok (.aload_n 0, 1) := by decide +kernel
theorem dX10_lacks_19 : decode cX10_lacks 19 = .ok (.getfield 25, 3) := by decide +kernel
theorem dX10_lacks_22 : decode cX10_lacks 22 = .ok (.iload_n 2, 1) := by decide +kernel
theorem dX10_lacks_23 : decode cX10_lacks 23 = .ok (.aload_n 0, 1) := by decide +kernel
theorem dX10_lacks_24 : decode cX10_lacks 24 = .ok (.getfield 32, 3) := by decide +kernel
theorem dX10_lacks_27 : decode cX10_lacks 27 = .ok (.getfield 145, 3) := by decide +kernel
theorem dX10_lacks_30 : decode cX10_lacks 30 = .ok (.iload_n 1, 1) := by decide +kernel
theorem dX10_lacks_31 : decode cX10_lacks 31 = .ok (.aaload, 1) := by decide +kernel
theorem dX10_lacks_32 : decode cX10_lacks 32 = .ok (.aload_n 0, 1) := by decide +kernel
theorem dX10_lacks_33 : decode cX10_lacks 33 = .ok (.getfield 32, 3) := by decide +kernel
theorem dX10_lacks_36 : decode cX10_lacks 36 = .ok (.getfield 81, 3) := by decide +kernel
theorem dX10_lacks_39 : decode cX10_lacks 39 = .ok (.getfield 85, 3) := by decide +kernel
theorem dX10_lacks_42 : decode cX10_lacks 42 = .ok (.invokevirtual 252, 3) := by decide +kernel
theorem dX10_lacks_45 : decode cX10_lacks 45 = .ok (.ireturn, 1) := by decide +kernel
theorem dX10_place_0 : decode cX10_place 0 = .ok (.iconst 0, 1) := by decide +kernel
theorem dX10_place_1 : decode cX10_place 1 = .ok (.istore_n 2, 1) := by decide +kernel
theorem dX10_place_2 : decode cX10_place 2 = .ok (.iload_n 2, 1) := by decide +kernel
theorem dX10_place_3 : decode cX10_place 3 = .ok (.aload_n 0, 1) := by decide +kernel
theorem dX10_place_4 : decode cX10_place 4 = .ok (.getfield 32, 3) := by decide +kernel
theorem dX10_place_7 : decode cX10_place 7 = .ok (.getfield 142, 3) := by decide +kernel
theorem dX10_place_10 : decode cX10_place 10 = .ok (.if_icmp .ge 57, 3) := by decide +kernel
theorem dX10_place_13 : decode cX10_place 13 = .ok (.iconst 0, 1) := by decide +kernel
theorem dX10_place_14 : decode cX10_place 14 = .ok (.istore_n 3, 1) := by decide +kernel
theorem dX10_place_15 : decode cX10_place 15 = .ok (.iconst 0, 1) := by decide +kernel
theorem dX10_place_16 : decode cX10_place 16 = .ok (.istore 4, 2) := by decide +kernel
theorem dX10_place_18 : decode cX10_place 18 = .ok (.iload 4, 2) := by decide +kernel
theorem dX10_place_20 : decode cX10_place 20 = .ok (.aload_n 0, 1) := by decide +kernel
theorem dX10_place_21 : decode cX10_place 21 = .ok (.getfield 32, 3) := by decide +kernel
theorem dX10_place_24 : decode cX10_place 24 = .ok (.getfield 142, 3) := by decide +kernel
theorem dX10_place_27 : decode cX10_place 27 = .ok (.if_icmp .ge 27, 3) := by decide +kernel
theorem dX10_place_30 : decode cX10_place 30 = .ok (.iload_n 3, 1) := by decide +kernel
theorem dX10_place_31 : decode cX10_place 31 = .ok (.aload_n 0, 1) := by decide +kernel
theorem dX10_place_32 : decode cX10_place 32 = .ok (.iload 4, 2) := by decide +kernel
theorem dX10_place_34 : decode cX10_place 34 = .ok (.iload_n 2, 1) := by decide +kernel
theorem dX10_place_35 : decode cX10_place 35 = .ok (.invokevirtual 256, 3) := by decide +kernel
theorem dX10_place_38 : decode cX10_place 38 = .ok (.ifCond .eq 7, 3) := by decide +kernel
theorem dX10_place_41 : decode cX10_place 41 = .ok (.iconst 1, 1) := by decide +kernel
theorem dX10_place_42 : decode cX10_place 42 = .ok (.goto 4, 3) := by decide +kernel
theorem dX10_place_45 : decode cX10_place 45 = .ok (.iconst 0, 1) := by decide +kernel
theorem dX10_place_46 : decode cX10_place 46 = .ok (.iadd, 1) := by decide +kernel
theorem dX10_place_47 : decode cX10_place 47 = .ok (.istore_n 3, 1) := by decide +kernel
theorem dX10_place_48 : decode cX10_place 48 = .ok (.iinc 4 1, 3) := by decide +kernel
theorem dX10_place_51 : decode cX10_place 51 = .ok (.goto (-33), 3) := by decide +kernel
theorem dX10_place_54 : decode cX10_place 54 = .ok (.iload_n 3, 1) := by decide +kernel
theorem dX10_place_55 : decode cX10_place 55 = .ok (.iload_n 1, 1) := by decide +kernel
theorem dX10_place_56 : decode cX10_place 56 = .ok (.if_icmp .ne 5, 3) := by decide +kernel
theorem dX10_place_59 : decode cX10_place 59 = .ok (.iload_n 2, 1) := by decide +kernel
theorem dX10_place_60 : decode cX10_place 60 = .ok (.ireturn, 1) := by decide +kernel
theorem dX10_place_61 : decode cX10_place 61 = .ok (.iinc 2 1, 3) := by decide +kernel
theorem dX10_place_64 : decode cX10_place 64 = .ok (.goto (-62), 3) := by decide +kernel
theorem dX10_place_67 : decode cX10_place 67 = .ok (.iconst (-1), 1) := by decide +kernel
theorem dX10_place_68 : decode cX10_place 68 = .ok (.ireturn, 1) := by decide +kernel
theorem dX10_came_0 : decode cX10_came 0 = .ok (.aload_n 0, 1) := by decide +kernel
theorem dX10_came_1 : decode cX10_came 1 = .ok (.iload_n 1, 1) := by decide +kernel
theorem dX10_came_2 : decode cX10_came 2 = .ok (.invokevirtual 230, 3) := by decide +kernel
theorem dX10_came_5 : decode cX10_came 5 = .ok (.ifCond .ne 5, 3) := by decide +kernel
theorem dX10_came_8 : decode cX10_came 8 = .ok (.iconst (-1), 1) := by decide +kernel
theorem dX10_came_9 : decode cX10_came 9 = .ok (.ireturn, 1) := by decide +kernel
theorem dX10_came_10 : decode cX10_came 10 = .ok (.iconst 0, 1) := by decide +kernel
theorem dX10_came_11 : decode cX10_came 11 = .ok (.istore_n 3, 1) := by decide +kernel
theorem dX10_came_12 : decode cX10_came 12 = .ok (.iconst 0, 1) := by decide +kernel
theorem dX10_came_13 : decode cX10_came 13 = .ok (.istore 4, 2) := by decide +kernel
theorem dX10_came_15 : decode cX10_came 15 = .ok (.iload 4, 2) := by decide +kernel
theorem dX10_came_17 : decode cX10_came 17 = .ok (.aload_n 0, 1) := by decide +kernel
theorem dX10_came_18 : decode cX10_came 18 = .ok (.getfield 32, 3) := by decide +kernel
theorem dX10_came_21 : decode cX10_came 21 = .ok (.getfield 142, 3) := by decide +kernel
theorem dX10_came_24 : decode cX10_came 24 = .ok (.if_icmp .ge 41, 3) := by decide +kernel
theorem dX10_came_27 : decode cX10_came 27 = .ok (.aload_n 0, 1) := by decide +kernel
theorem dX10_came_28 : decode cX10_came 28 = .ok (.getfield 32, 3) := by decide +kernel
theorem dX10_came_31 : decode cX10_came 31 = .ok (.getfield 145, 3) := by decide +kernel
theorem dX10_came_34 : decode cX10_came 34 = .ok (.iload 4, 2) := by decide +kernel
theorem dX10_came_36 : decode cX10_came 36 = .ok (.aaload, 1) := by decide +kernel
theorem dX10_came_37 : decode cX10_came 37 = .ok (.getfield 236, 3) := by decide +kernel
theorem dX10_came_40 : decode cX10_came 40 = .ok (.iload_n 1, 1) := by decide +kernel
theorem dX10_came_41 : decode cX10_came 41 = .ok (.iaload, 1) := by decide +kernel
theorem dX10_came_42 : decode cX10_came 42 = .ok (.istore 5, 2) := by decide +kernel
theorem dX10_came_44 : decode cX10_came 44 = .ok (.iload 5, 2) := by decide +kernel
theorem dX10_came_46 : decode cX10_came 46 = .ok (.iconst (-1), 1) := by decide +kernel
theorem dX10_came_47 : decode cX10_came 47 = .ok (.if_icmp .eq 12, 3) := by decide +kernel
theorem dX10_came_50 : decode cX10_came 50 = .ok (.iload 5, 2) := by decide +kernel
theorem dX10_came_52 : decode cX10_came 52 = .ok (.iload_n 2, 1) := by decide +kernel
theorem dX10_came_53 : decode cX10_came 53 = .ok (.if_icmp .gt 6, 3) := by decide +kernel
theorem dX10_came_56 : decode cX10_came 56 = .ok (.iinc 3 1, 3) := by decide +kernel
theorem dX10_came_59 : decode cX10_came 59 = .ok (.iinc 4 1, 3) := by decide +kernel
theorem dX10_came_62 : decode cX10_came 62 = .ok (.goto (-47), 3) := by decide +kernel
theorem dX10_came_65 : decode cX10_came 65 = .ok (.iload_n 3, 1) := by decide +kernel
theorem dX10_came_66 : decode cX10_came 66 = .ok (.ireturn, 1) := by decide +kernel
theorem dX10_spot_0 : decode cX10_spot 0 = .ok (.aload_n 0, 1) := by decide +kernel
theorem dX10_spot_1 : decode cX10_spot 1 = .ok (.iload_n 1, 1) := by decide +kernel
theorem dX10_spot_2 : decode cX10_spot 2 = .ok (.invokevirtual 153, 3) := by decide +kernel
theorem dX10_spot_5 : decode cX10_spot 5 = .ok (.ifCond .eq 18, 3) := by decide +kernel
theorem dX10_spot_8 : decode cX10_spot 8 = .ok (.iload_n 2, 1) := by decide +kernel
theorem dX10_spot_9 : decode cX10_spot 9 = .ok (.ifCond .lt 14, 3) := by decide +kernel
theorem dX10_spot_12 : decode cX10_spot 12 = .ok (.iload_n 2, 1) := by decide +kernel
theorem dX10_spot_13 : decode cX10_spot 13 = .ok (.aload_n 0, 1) := by decide +kernel
theorem dX10_spot_14 : decode cX10_spot 14 = .ok (.getfield 32, 3) := by decide +kernel
theorem dX10_spot_17 : decode cX10_spot 17 = .ok (.getfield 70, 3) := by decide +kernel
theorem dX10_spot_20 : decode cX10_spot 20 = .ok (.if_icmp .lt 5, 3) := by decide +kernel
theorem dX10_spot_23 : decode cX10_spot 23 = .ok (.iconst (-1), 1) := by decide +kernel
theorem dX10_spot_24 : decode cX10_spot 24 = .ok (.ireturn, 1) := by decide +kernel
theorem dX10_spot_25 : decode cX10_spot 25 = .ok (.iload_n 3, 1) := by decide +kernel
theorem dX10_spot_26 : decode cX10_spot 26 = .ok (.ifCond .eq 12, 3) := by decide +kernel
theorem dX10_spot_29 : decode cX10_spot 29 = .ok (.aload_n 0, 1) := by decide +kernel
theorem dX10_spot_30 : decode cX10_spot 30 = .ok (.iload_n 1, 1) := by decide +kernel
theorem dX10_spot_31 : decode cX10_spot 31 = .ok (.iload_n 2, 1) := by decide +kernel
theorem dX10_spot_32 : decode cX10_spot 32 = .ok (.invokevirtual 260, 3) := by decide +kernel
theorem dX10_spot_35 : decode cX10_spot 35 = .ok (.goto 9, 3) := by decide +kernel
theorem dX10_spot_38 : decode cX10_spot 38 = .ok (.aload_n 0, 1) := by decide +kernel
theorem dX10_spot_39 : decode cX10_spot 39 = .ok (.iload_n 1, 1) := by decide +kernel
theorem dX10_spot_40 : decode cX10_spot 40 = .ok (.iload_n 2, 1) := by decide +kernel
theorem dX10_spot_41 : decode cX10_spot 41 = .ok (.invokevirtual 263, 3) := by decide +kernel
theorem dX10_spot_44 : decode cX10_spot 44 = .ok (.ireturn, 1) := by decide +kernel
theorem dX10_signs_0 : decode cX10_signs 0 = .ok (.aload_n 0, 1) := by decide +kernel
theorem dX10_signs_1 : decode cX10_signs 1 = .ok (.iload_n 1, 1) := by decide +kernel
theorem dX10_signs_2 : decode cX10_signs 2 = .ok (.invokevirtual 153, 3) := by decide +kernel
theorem dX10_signs_5 : decode cX10_signs 5 = .ok (.ifCond .eq 29, 3) := by decide +kernel
theorem dX10_signs_8 : decode cX10_signs 8 = .ok (.aload_n 0, 1) := by decide +kernel
theorem dX10_signs_9 : decode cX10_signs 9 = .ok (.getfield 38, 3) := by decide +kernel
theorem dX10_signs_12 : decode cX10_signs 12 = .ok (.iload_n 1, 1) := by decide +kernel
theorem dX10_signs_13 : decode cX10_signs 13 = .ok (.aaload, 1) := by decide +kernel
theorem dX10_signs_14 : decode cX10_signs 14 = .ok (.aload_n 0, 1) := by decide +kernel
theorem dX10_signs_15 : decode cX10_signs 15 = .ok (.getfield 32, 3) := by decide +kernel
theorem dX10_signs_18 : decode cX10_signs 18 = .ok (.getfield 170, 3) := by decide +kernel
theorem dX10_signs_21 : decode cX10_signs 21 = .ok (.aload_n 0, 1) := by decide +kernel
theorem dX10_signs_22 : decode cX10_signs 22 = .ok (.getfield 32, 3) := by decide +kernel
theorem dX10_signs_25 : decode cX10_signs 25 = .ok (.getfield 70, 3) := by decide +kernel
theorem dX10_signs_28 : decode cX10_signs 28 = .ok (.invokevirtual 266, 3) := by decide +kernel
theorem dX10_signs_31 : decode cX10_signs 31 = .ok (.goto 4, 3) := by decide +kernel
theorem dX10_signs_34 : decode cX10_signs 34 = .ok (.iconst (-1), 1) := by decide +kernel
theorem dX10_signs_35 : decode cX10_signs 35 = .ok (.ireturn, 1) := by decide +kernel
theorem dX10_replay_0 : decode cX10_replay 0 = .ok (.aload_n 0, 1) := by decide +kernel
theorem dX10_replay_1 : decode cX10_replay 1 = .ok (.iload_n 1, 1) := by decide +kernel
theorem dX10_replay_2 : decode cX10_replay 2 = .ok (.invokevirtual 153, 3) := by decide +kernel
theorem dX10_replay_5 : decode cX10_replay 5 = .ok (.ifCond .eq 11, 3) := by decide +kernel
theorem dX10_replay_8 : decode cX10_replay 8 = .ok (.aload_n 0, 1) := by decide +kernel
theorem dX10_replay_9 : decode cX10_replay 9 = .ok (.iload_n 2, 1) := by decide +kernel
theorem dX10_replay_10 : decode cX10_replay 10 = .ok (.invokevirtual 139, 3) := by decide +kernel
theorem dX10_replay_13 : decode cX10_replay 13 = .ok (.ifCond .ne 9, 3) := by decide +kernel
theorem dX10_replay_16 : decode cX10_replay 16 = .ok (.aload_n 0, 1) := by decide +kernel
theorem dX10_replay_17 : decode cX10_replay 17 = .ok (.iconst 1, 1) := by decide +kernel
theorem dX10_replay_18 : decode cX10_replay 18 = .ok (.invokevirtual 73, 3) := by decide +kernel
theorem dX10_replay_21 : decode cX10_replay 21 = .ok (.ireturn, 1) := by decide +kernel
theorem dX10_replay_22 : decode cX10_replay 22 = .ok (.iload_n 3, 1) := by decide +kernel
theorem dX10_replay_23 : decode cX10_replay 23 = .ok (.iconst 0, 1) := by decide +kernel
theorem dX10_replay_24 : decode cX10_replay 24 = .ok (.iconst 3, 1) := by decide +kernel
theorem dX10_replay_25 : decode cX10_replay 25 = .ok (.invokestatic 77, 3) := by decide +kernel
theorem dX10_replay_28 : decode cX10_replay 28 = .ok (.ifCond .ne 9, 3) := by decide +kernel
theorem dX10_replay_31 : decode cX10_replay 31 = .ok (.aload_n 0, 1) := by decide +kernel
theorem dX10_replay_32 : decode cX10_replay 32 = .ok (.iconst 2, 1) := by decide +kernel
theorem dX10_replay_33 : decode cX10_replay 33 = .ok (.invokevirtual 73, 3) := by decide +kernel
theorem dX10_replay_36 : decode cX10_replay 36 = .ok (.ireturn, 1) := by decide +kernel
theorem dX10_replay_37 : decode cX10_replay 37 = .ok (.aload_n 0, 1) := by decide +kernel
theorem dX10_replay_38 : decode cX10_replay 38 = .ok (.iload_n 1, 1) := by decide +kernel
theorem dX10_replay_39 : decode cX10_replay 39 = .ok (.iload_n 2, 1) := by decide +kernel
theorem dX10_replay_40 : decode cX10_replay 40 = .ok (.invokevirtual 269, 3) := by decide +kernel
theorem dX10_replay_43 : decode cX10_replay 43 = .ok (.iload_n 3, 1) := by decide +kernel
theorem dX10_replay_44 : decode cX10_replay 44 = .ok (.tableswitch 74 0 2 #[28, 47, 62], 28) := by decide +kernel
theorem dX10_replay_72 : decode cX10_replay 72 = .ok (.aload_n 0, 1) := by decide +kernel
theorem dX10_replay_73 : decode cX10_replay 73 = .ok (.aload_n 0, 1) := by decide +kernel
theorem dX10_replay_74 : decode cX10_replay 74 = .ok (.getfield 45, 3) := by decide +kernel
theorem dX10_replay_77 : decode cX10_replay 77 = .ok (.aload_n 0, 1) := by decide +kernel
theorem dX10_replay_78 : decode cX10_replay 78 = .ok (.getfield 32, 3) := by decide +kernel
theorem dX10_replay_81 : decode cX10_replay 81 = .ok (.getfield 81, 3) := by decide +kernel
theorem dX10_replay_84 : decode cX10_replay 84 = .ok (.invokevirtual 188, 3) := by decide +kernel
theorem dX10_replay_87 : decode cX10_replay 87 = .ok (.invokevirtual 94, 3) := by decide +kernel
theorem dX10_replay_90 : decode cX10_replay 90 = .ok (.ireturn, 1) := by decide +kernel
theorem dX10_replay_91 : decode cX10_replay 91 = .ok (.aload_n 0, 1) := by decide +kernel
theorem dX10_replay_92 : decode cX10_replay 92 = .ok (.aload_n 0, 1) := by decide +kernel
theorem dX10_replay_93 : decode cX10_replay 93 = .ok (.getfield 45, 3) := by decide +kernel
theorem dX10_replay_96 : decode cX10_replay 96 = .ok (.getfield 192, 3) := by decide +kernel
theorem dX10_replay_99 : decode cX10_replay 99 = .ok (.getfield 196, 3) := by decide +kernel
theorem dX10_replay_102 : decode cX10_replay 102 = .ok (.invokevirtual 94, 3) := by decide +kernel
theorem dX10_replay_105 : decode cX10_replay 105 = .ok (.ireturn, 1) := by decide +kernel
theorem dX10_replay_106 : decode cX10_replay 106 = .ok (.aload_n 0, 1) := by decide +kernel
theorem dX10_replay_107 : decode cX10_replay 107 = .ok (.aload_n 0, 1) := by decide +kernel
theorem dX10_replay_108 : decode cX10_replay 108 = .ok (.getfield 45, 3) := by decide +kernel
theorem dX10_replay_111 : decode cX10_replay 111 = .ok (.getfield 179, 3) := by decide +kernel
theorem dX10_replay_114 : decode cX10_replay 114 = .ok (.invokevirtual 94, 3) := by decide +kernel
theorem dX10_replay_117 : decode cX10_replay 117 = .ok (.ireturn, 1) := by decide +kernel
theorem dX10_replay_118 : decode cX10_replay 118 = .ok (.aload_n 0, 1) := by decide +kernel
theorem dX10_replay_119 : decode cX10_replay 119 = .ok (.aload_n 0, 1) := by decide +kernel
theorem dX10_replay_120 : decode cX10_replay 120 = .ok (.getfield 45, 3) := by decide +kernel
theorem dX10_replay_123 : decode cX10_replay 123 = .ok (.getfield 236, 3) := by decide +kernel
theorem dX10_replay_126 : decode cX10_replay 126 = .ok (.aload_n 0, 1) := by decide +kernel
theorem dX10_replay_127 : decode cX10_replay 127 = .ok (.getfield 32, 3) := by decide +kernel
theorem dX10_replay_130 : decode cX10_replay 130 = .ok (.getfield 81, 3) := by decide +kernel
theorem dX10_replay_133 : decode cX10_replay 133 = .ok (.getfield 85, 3) := by decide +kernel
theorem dX10_replay_136 : decode cX10_replay 136 = .ok (.iaload, 1) := by decide +kernel
theorem dX10_replay_137 : decode cX10_replay 137 = .ok (.invokevirtual 94, 3) := by decide +kernel
theorem dX10_replay_140 : decode cX10_replay 140 = .ok (.ireturn, 1) := by decide +kernel
theorem dX10_keep_0 : decode cX10_keep 0 = .ok (.aload_n 0, 1) := by decide +kernel
theorem dX10_keep_1 : decode cX10_keep 1 = .ok (.getfield 49, 3) := by decide +kernel
theorem dX10_keep_4 : decode cX10_keep 4 = .ok (.ifnonnull 14, 3) := by decide +kernel
theorem dX10_keep_7 : decode cX10_keep 7 = .ok (.aload_n 0, 1) := by decide +kernel
theorem dX10_keep_8 : decode cX10_keep 8 = .ok (.new 29, 3) := by decide +kernel
theorem dX10_keep_11 : decode cX10_keep 11 = .ok (.dup, 1) := by decide +kernel
theorem dX10_keep_12 : decode cX10_keep 12 = .ok (.invokespecial 31, 3) := by decide +kernel
theorem dX10_keep_15 : decode cX10_keep 15 = .ok (.putfield 49, 3) := by decide +kernel
theorem dX10_keep_18 : decode cX10_keep 18 = .ok (.aload_n 0, 1) := by decide +kernel
theorem dX10_keep_19 : decode cX10_keep 19 = .ok (.getfield 49, 3) := by decide +kernel
theorem dX10_keep_22 : decode cX10_keep 22 = .ok (.aload_n 0, 1) := by decide +kernel
theorem dX10_keep_23 : decode cX10_keep 23 = .ok (.getfield 32, 3) := by decide +kernel
theorem dX10_keep_26 : decode cX10_keep 26 = .ok (.invokevirtual 272, 3) := by decide +kernel
theorem dX10_keep_29 : decode cX10_keep 29 = .ok (.iconst 1, 1) := by decide +kernel
theorem dX10_keep_30 : decode cX10_keep 30 = .ok (.ireturn, 1) := by decide +kernel
theorem dX10_back_0 : decode cX10_back 0 = .ok (.aload_n 0, 1) := by decide +kernel
theorem dX10_back_1 : decode cX10_back 1 = .ok (.getfield 49, 3) := by decide +kernel
theorem dX10_back_4 : decode cX10_back 4 = .ok (.ifnonnull 9, 3) := by decide +kernel
theorem dX10_back_7 : decode cX10_back 7 = .ok (.aload_n 0, 1) := by decide +kernel
theorem dX10_back_8 : decode cX10_back 8 = .ok (.iconst 1, 1) := by decide +kernel
theorem dX10_back_9 : decode cX10_back 9 = .ok (.invokevirtual 97, 3) := by decide +kernel
theorem dX10_back_12 : decode cX10_back 12 = .ok (.ireturn, 1) := by decide +kernel
theorem dX10_back_13 : decode cX10_back 13 = .ok (.aload_n 0, 1) := by decide +kernel
theorem dX10_back_14 : decode cX10_back 14 = .ok (.getfield 32, 3) := by decide +kernel
theorem dX10_back_17 : decode cX10_back 17 = .ok (.aload_n 0, 1) := by decide +kernel
theorem dX10_back_18 : decode cX10_back 18 = .ok (.getfield 49, 3) := by decide +kernel
theorem dX10_back_21 : decode cX10_back 21 = .ok (.invokevirtual 272, 3) := by decide +kernel
theorem dX10_back_24 : decode cX10_back 24 = .ok (.aload_n 0, 1) := by decide +kernel
theorem dX10_back_25 : decode cX10_back 25 = .ok (.iconst (-1), 1) := by decide +kernel
theorem dX10_back_26 : decode cX10_back 26 = .ok (.putfield 59, 3) := by decide +kernel
theorem dX10_back_29 : decode cX10_back 29 = .ok (.aload_n 0, 1) := by decide +kernel
theorem dX10_back_30 : decode cX10_back 30 = .ok (.invokevirtual 111, 3) := by decide +kernel
theorem dX10_back_33 : decode cX10_back 33 = .ok (.ireturn, 1) := by decide +kernel
theorem dX10_law_0 : decode cX10_law 0 = .ok (.aload_n 0, 1) := by decide +kernel
theorem dX10_law_1 : decode cX10_law 1 = .ok (.iload_n 1, 1) := by decide +kernel
theorem dX10_law_2 : decode cX10_law 2 = .ok (.invokevirtual 249, 3) := by decide +kernel
theorem dX10_law_5 : decode cX10_law 5 = .ok (.ifCond .eq 15, 3) := by decide +kernel
theorem dX10_law_8 : decode cX10_law 8 = .ok (.aload_n 0, 1) := by decide +kernel
theorem dX10_law_9 : decode cX10_law 9 = .ok (.getfield 25, 3) := by decide +kernel
theorem dX10_law_12 : decode cX10_law 12 = .ok (.iload_n 1, 1) := by decide +kernel
theorem dX10_law_13 : decode cX10_law 13 = .ok (.iload_n 2, 1) := by decide +kernel
theorem dX10_law_14 : decode cX10_law 14 = .ok (.invokevirtual 276, 3) := by decide +kernel
theorem dX10_law_17 : decode cX10_law 17 = .ok (.goto 4, 3) := by decide +kernel
theorem dX10_law_20 : decode cX10_law 20 = .ok (.iconst (-1), 1) := by decide +kernel
theorem dX10_law_21 : decode cX10_law 21 = .ok (.ireturn, 1) := by decide +kernel
theorem dX10_planned_0 : decode cX10_planned 0 = .ok (.aload_n 0, 1) := by decide +kernel
theorem dX10_planned_1 : decode cX10_planned 1 = .ok (.iload_n 1, 1) := by decide +kernel
theorem dX10_planned_2 : decode cX10_planned 2 = .ok (.invokevirtual 139, 3) := by decide +kernel
theorem dX10_planned_5 : decode cX10_planned 5 = .ok (.ifCond .ne 5, 3) := by decide +kernel
theorem dX10_planned_8 : decode cX10_planned 8 = .ok (.iconst (-1), 1) := by decide +kernel
theorem dX10_planned_9 : decode cX10_planned 9 = .ok (.ireturn, 1) := by decide +kernel
theorem dX10_planned_10 : decode cX10_planned 10 = .ok (.iload_n 2, 1) := by decide +kernel
theorem dX10_planned_11 : decode cX10_planned 11 = .ok (.lookupswitch 45 #[(0, 25), (1, 35)], 25) := by decide +kernel
theorem dX10_planned_36 : decode cX10_planned 36 = .ok (.aload_n 0, 1) := by decide +kernel
theorem dX10_planned_37 : decode cX10_planned 37 = .ok (.getfield 18, 3) := by decide +kernel
theorem dX10_planned_40 : decode cX10_planned 40 = .ok (.iload_n 1, 1) := by decide +kernel
theorem dX10_planned_41 : decode cX10_planned 41 = .ok (.aaload, 1) := by decide +kernel
theorem dX10_planned_42 : decode cX10_planned 42 = .ok (.getfield 279, 3) := by decide +kernel
theorem dX10_planned_45 : decode cX10_planned 45 = .ok (.ireturn, 1) := by decide +kernel
theorem dX10_planned_46 : decode cX10_planned 46 = .ok (.aload_n 0, 1) := by decide +kernel
theorem dX10_planned_47 : decode cX10_planned 47 = .ok (.getfield 18, 3) := by decide +kernel
theorem dX10_planned_50 : decode cX10_planned 50 = .ok (.iload_n 1, 1) := by decide +kernel
theorem dX10_planned_51 : decode cX10_planned 51 = .ok (.aaload, 1) := by decide +kernel
theorem dX10_planned_52 : decode cX10_planned 52 = .ok (.getfield 282, 3) := by decide +kernel
theorem dX10_planned_55 : decode cX10_planned 55 = .ok (.ireturn, 1) := by decide +kernel
theorem dX10_planned_56 : decode cX10_planned 56 = .ok (.iconst (-1), 1) := by decide +kernel
theorem dX10_planned_57 : decode cX10_planned 57 = .ok (.ireturn, 1) := by decide +kernel
theorem dX10_count_0 : decode cX10_count 0 = .ok (.iload_n 1, 1) := by decide +kernel
theorem dX10_count_1 : decode cX10_count 1 = .ok (.tableswitch 102 0 6 #[43, 54, 62, 67, 75, 83, 94], 43) := by decide +kernel
theorem dX10_count_44 : decode cX10_count 44 = .ok (.aload_n 0, 1) := by decide +kernel
theorem dX10_count_45 : decode cX10_count 45 = .ok (.getfield 32, 3) := by decide +kernel
theorem dX10_count_48 : decode cX10_count 48 = .ok (.getfield 81, 3) := by decide +kernel
theorem dX10_count_51 : decode cX10_count 51 = .ok (.getfield 85, 3) := by decide +kernel
theorem dX10_count_54 : decode cX10_count 54 = .ok (.ireturn, 1) := by decide +kernel
theorem dX10_count_55 : decode cX10_count 55 = .ok (.aload_n 0, 1) := by decide +kernel
theorem dX10_count_56 : decode cX10_count 56 = .ok (.getfield 32, 3) := by decide +kernel
theorem dX10_count_59 : decode cX10_count 59 = .ok (.getfield 142, 3) := by decide +kernel
theorem dX10_count_62 : decode cX10_count 62 = .ok (.ireturn, 1) := by decide +kernel
theorem dX10_count_63 : decode cX10_count 63 = .ok (.aload_n 0, 1) := by decide +kernel
theorem dX10_count_64 : decode cX10_count 64 = .ok (.getfield 52, 3) := by decide +kernel
theorem dX10_count_67 : decode cX10_count 67 = .ok (.ireturn, 1) := by decide +kernel
theorem dX10_count_68 : decode cX10_count 68 = .ok (.aload_n 0, 1) := by decide +kernel
theorem dX10_count_69 : decode cX10_count 69 = .ok (.getfield 25, 3) := by decide +kernel
theorem dX10_count_72 : decode cX10_count 72 = .ok (.getfield 130, 3) := by decide +kernel
theorem dX10_count_75 : decode cX10_count 75 = .ok (.ireturn, 1) := by decide +kernel
theorem dX10_count_76 : decode cX10_count 76 = .ok (.aload_n 0, 1) := by decide +kernel
theorem dX10_count_77 : decode cX10_count 77 = .ok (.getfield 32, 3) := by decide +kernel
theorem dX10_count_80 : decode cX10_count 80 = .ok (.getfield 70, 3) := by decide +kernel
theorem dX10_count_83 : decode cX10_count 83 = .ok (.ireturn, 1) := by decide +kernel
theorem dX10_count_84 : decode cX10_count 84 = .ok (.aload_n 0, 1) := by decide +kernel
theorem dX10_count_85 : decode cX10_count 85 = .ok (.getfield 32, 3) := by decide +kernel
theorem dX10_count_88 : decode cX10_count 88 = .ok (.getfield 81, 3) := by decide +kernel
theorem dX10_count_91 : decode cX10_count 91 = .ok (.invokevirtual 285, 3) := by decide +kernel
theorem dX10_count_94 : decode cX10_count 94 = .ok (.ireturn, 1) := by decide +kernel
theorem dX10_count_95 : decode cX10_count 95 = .ok (.aload_n 0, 1) := by decide +kernel
theorem dX10_count_96 : decode cX10_count 96 = .ok (.getfield 10, 3) := by decide +kernel
theorem dX10_count_99 : decode cX10_count 99 = .ok (.getfield 115, 3) := by decide +kernel
theorem dX10_count_102 : decode cX10_count 102 = .ok (.ireturn, 1) := by decide +kernel
theorem dX10_count_103 : decode cX10_count 103 = .ok (.iconst (-1), 1) := by decide +kernel
theorem dX10_count_104 : decode cX10_count 104 = .ok (.ireturn, 1) := by decide +kernel
theorem dX10_trouble_0 : decode cX10_trouble 0 = .ok (.aload_n 0, 1) := by decide +kernel
theorem dX10_trouble_1 : decode cX10_trouble 1 = .ok (.getfield 56, 3) := by decide +kernel
theorem dX10_trouble_4 : decode cX10_trouble 4 = .ok (.ireturn, 1) := by decide +kernel
theorem dX10_refuse_0 : decode cX10_refuse 0 = .ok (.aload_n 0, 1) := by decide +kernel
theorem dX10_refuse_1 : decode cX10_refuse 1 = .ok (.iload_n 1, 1) := by decide +kernel
theorem dX10_refuse_2 : decode cX10_refuse 2 = .ok (.putfield 56, 3) := by decide +kernel
theorem dX10_refuse_5 : decode cX10_refuse 5 = .ok (.iconst (-1), 1) := by decide +kernel
theorem dX10_refuse_6 : decode cX10_refuse 6 = .ok (.ireturn, 1) := by decide +kernel
theorem dX10_deny_0 : decode cX10_deny 0 = .ok (.aload_n 0, 1) := by decide +kernel
theorem dX10_deny_1 : decode cX10_deny 1 = .ok (.iload_n 1, 1) := by decide +kernel
theorem dX10_deny_2 : decode cX10_deny 2 = .ok (.putfield 56, 3) := by decide +kernel
theorem dX10_deny_5 : decode cX10_deny 5 = .ok (.iconst 0, 1) := by decide +kernel
theorem dX10_deny_6 : decode cX10_deny 6 = .ok (.ireturn, 1) := by decide +kernel
theorem dX10_grant_0 : decode cX10_grant 0 = .ok (.aload_n 0, 1) := by decide +kernel
theorem dX10_grant_1 : decode cX10_grant 1 = .ok (.iconst 0, 1) := by decide +kernel
theorem dX10_grant_2 : decode cX10_grant 2 = .ok (.putfield 56, 3) := by decide +kernel
theorem dX10_grant_5 : decode cX10_grant 5 = .ok (.iload_n 1, 1) := by decide +kernel
theorem dX10_grant_6 : decode cX10_grant 6 = .ok (.ireturn, 1) := by decide +kernel
theorem dX10_allow_0 : decode cX10_allow 0 = .ok (.aload_n 0, 1) := by decide +kernel
theorem dX10_allow_1 : decode cX10_allow 1 = .ok (.iconst 0, 1) := by decide +kernel
theorem dX10_allow_2 : decode cX10_allow 2 = .ok (.putfield 56, 3) := by decide +kernel
theorem dX10_allow_5 : decode cX10_allow 5 = .ok (.iconst 1, 1) := by decide +kernel
theorem dX10_allow_6 : decode cX10_allow 6 = .ok (.ireturn, 1) := by decide +kernel
theorem dX10_isTeam_0 : decode cX10_isTeam 0 = .ok (.iload_n 1, 1) := by decide +kernel
theorem dX10_isTeam_1 : decode cX10_isTeam 1 = .ok (.ifCond .lt 18, 3) := by decide +kernel
theorem dX10_isTeam_4 : decode cX10_isTeam 4 = .ok (.iload_n 1, 1) := by decide +kernel
theorem dX10_isTeam_5 : decode cX10_isTeam 5 = .ok (.aload_n 0, 1) := by decide +kernel
theorem dX10_isTeam_6 : decode cX10_isTeam 6 = .ok (.getfield 32, 3) := by decide +kernel
theorem dX10_isTeam_9 : decode cX10_isTeam 9 = .ok (.getfield 142, 3) := by decide +kernel
theorem dX10_isTeam_12 : decode cX10_isTeam 12 = .ok (.if_icmp .ge 7, 3) := by decide +kernel
theorem dX10_isTeam_15 : decode cX10_isTeam 15 = .ok (.iconst 1, 1) := by decide +kernel
theorem dX10_isTeam_16 : decode cX10_isTeam 16 = .ok (.goto 4, 3) := by decide +kernel
theorem dX10_isTeam_19 : decode cX10_isTeam 19 = .ok (.iconst 0, 1) := by decide +kernel
theorem dX10_isTeam_20 : decode cX10_isTeam 20 = .ok (.ireturn, 1) := by decide +kernel
theorem dX10_isHome_0 : decode cX10_isHome 0 = .ok (.aload_n 0, 1) := by decide +kernel
theorem dX10_isHome_1 : decode cX10_isHome 1 = .ok (.iload_n 1, 1) := by decide +kernel
theorem dX10_isHome_2 : decode cX10_isHome 2 = .ok (.invokevirtual 153, 3) := by decide +kernel
theorem dX10_isHome_5 : decode cX10_isHome 5 = .ok (.ifCond .eq 23, 3) := by decide +kernel
theorem dX10_isHome_8 : decode cX10_isHome 8 = .ok (.aload_n 0, 1) := by decide +kernel
theorem dX10_isHome_9 : decode cX10_isHome 9 = .ok (.getfield 32, 3) := by decide +kernel
theorem dX10_isHome_12 : decode cX10_isHome 12 = .ok (.getfield 145, 3) := by decide +kernel
theorem dX10_isHome_15 : decode cX10_isHome 15 = .ok (.iload_n 1, 1) := by decide +kernel
theorem dX10_isHome_16 : decode cX10_isHome 16 = .ok (.aaload, 1) := by decide +kernel
theorem dX10_isHome_17 : decode cX10_isHome 17 = .ok (.getfield 179, 3) := by decide +kernel
theorem dX10_isHome_20 : decode cX10_isHome 20 = .ok (.iconst 2, 1) := by decide +kernel
theorem dX10_isHome_21 : decode cX10_isHome 21 = .ok (.if_icmp .ne 7, 3) := by decide +kernel
theorem dX10_isHome_24 : decode cX10_isHome 24 = .ok (.iconst 1, 1) := by decide +kernel
theorem dX10_isHome_25 : decode cX10_isHome 25 = .ok (.goto 4, 3) := by decide +kernel
theorem dX10_isHome_28 : decode cX10_isHome 28 = .ok (.iconst 0, 1) := by decide +kernel
theorem dX10_isHome_29 : decode cX10_isHome 29 = .ok (.ireturn, 1) := by decide +kernel
theorem dX10_isPlan_0 : decode cX10_isPlan 0 = .ok (.iload_n 1, 1) := by decide +kernel
theorem dX10_isPlan_1 : decode cX10_isPlan 1 = .ok (.ifCond .lt 15, 3) := by decide +kernel
theorem dX10_isPlan_4 : decode cX10_isPlan 4 = .ok (.iload_n 1, 1) := by decide +kernel
theorem dX10_isPlan_5 : decode cX10_isPlan 5 = .ok (.aload_n 0, 1) := by decide +kernel
theorem dX10_isPlan_6 : decode cX10_isPlan 6 = .ok (.getfield 52, 3) := by decide +kernel
theorem dX10_isPlan_9 : decode cX10_isPlan 9 = .ok (.if_icmp .ge 7, 3) := by decide +kernel
theorem dX10_isPlan_12 : decode cX10_isPlan 12 = .ok (.iconst 1, 1) := by decide +kernel
theorem dX10_isPlan_13 : decode cX10_isPlan 13 = .ok (.goto 4, 3) := by decide +kernel
theorem dX10_isPlan_16 : decode cX10_isPlan 16 = .ok (.iconst 0, 1) := by decide +kernel
theorem dX10_isPlan_17 : decode cX10_isPlan 17 = .ok (.ireturn, 1) := by decide +kernel
theorem dX10_isLaw_0 : decode cX10_isLaw 0 = .ok (.iload_n 1, 1) := by decide +kernel
theorem dX10_isLaw_1 : decode cX10_isLaw 1 = .ok (.ifCond .lt 18, 3) := by decide +kernel
theorem dX10_isLaw_4 : decode cX10_isLaw 4 = .ok (.iload_n 1, 1) := by decide +kernel
theorem dX10_isLaw_5 : decode cX10_isLaw 5 = .ok (.aload_n 0, 1) := by decide +kernel
theorem dX10_isLaw_6 : decode cX10_isLaw 6 = .ok (.getfield 25, 3) := by decide +kernel
theorem dX10_isLaw_9 : decode cX10_isLaw 9 = .ok (.getfield 130, 3) := by decide +kernel
theorem dX10_isLaw_12 : decode cX10_isLaw 12 = .ok (.if_icmp .ge 7, 3) := by decide +kernel
theorem dX10_isLaw_15 : decode cX10_isLaw 15 = .ok (.iconst 1, 1) := by decide +kernel
theorem dX10_isLaw_16 : decode cX10_isLaw 16 = .ok (.goto 4, 3) := by decide +kernel
theorem dX10_isLaw_19 : decode cX10_isLaw 19 = .ok (.iconst 0, 1) := by decide +kernel
theorem dX10_isLaw_20 : decode cX10_isLaw 20 = .ok (.ireturn, 1) := by decide +kernel
theorem dX10_isPost_0 : decode cX10_isPost 0 = .ok (.iload_n 1, 1) := by decide +kernel
theorem dX10_isPost_1 : decode cX10_isPost 1 = .ok (.ifCond .lt 21, 3) := by decide +kernel
theorem dX10_isPost_4 : decode cX10_isPost 4 = .ok (.iload_n 1, 1) := by decide +kernel
theorem dX10_isPost_5 : decode cX10_isPost 5 = .ok (.aload_n 0, 1) := by decide +kernel
theorem dX10_isPost_6 : decode cX10_isPost 6 = .ok (.getfield 32, 3) := by decide +kernel
theorem dX10_isPost_9 : decode cX10_isPost 9 = .ok (.getfield 81, 3) := by decide +kernel
theorem dX10_isPost_12 : decode cX10_isPost 12 = .ok (.getfield 85, 3) := by decide +kernel
theorem dX10_isPost_15 : decode cX10_isPost 15 = .ok (.if_icmp .gt 7, 3) := by decide +kernel
theorem dX10_isPost_18 : decode cX10_isPost 18 = .ok (.iconst 1, 1) := by decide +kernel
theorem dX10_isPost_19 : decode cX10_isPost 19 = .ok (.goto 4, 3) := by decide +kernel
theorem dX10_isPost_22 : decode cX10_isPost 22 = .ok (.iconst 0, 1) := by decide +kernel
theorem dX10_isPost_23 : decode cX10_isPost 23 = .ok (.ireturn, 1) := by decide +kernel
theorem dX10_within_0 : decode cX10_within 0 = .ok (.iload_n 0, 1) := by decide +kernel
theorem dX10_within_1 : decode cX10_within 1 = .ok (.iload_n 1, 1) := by decide +kernel
theorem dX10_within_2 : decode cX10_within 2 = .ok (.if_icmp .lt 12, 3) := by decide +kernel
theorem dX10_within_5 : decode cX10_within 5 = .ok (.iload_n 0, 1) := by decide +kernel
theorem dX10_within_6 : decode cX10_within 6 = .ok (.iload_n 2, 1) := by decide +kernel
theorem dX10_within_7 : decode cX10_within 7 = .ok (.if_icmp .gt 7, 3) := by decide +kernel
theorem dX10_within_10 : decode cX10_within 10 = .ok (.iconst 1, 1) := by decide +kernel
theorem dX10_within_11 : decode cX10_within 11 = .ok (.goto 4, 3) := by decide +kernel
theorem dX10_within_14 : decode cX10_within 14 = .ok (.iconst 0, 1) := by decide +kernel
theorem dX10_within_15 : decode cX10_within 15 = .ok (.ireturn, 1) := by decide +kernel
theorem dX10_share_0 : decode cX10_share 0 = .ok (.iload_n 1, 1) := by decide +kernel
theorem dX10_share_1 : decode cX10_share 1 = .ok (.ifCond .le 9, 3) := by decide +kernel
theorem dX10_share_4 : decode cX10_share 4 = .ok (.iload_n 0, 1) := by decide +kernel
theorem dX10_share_5 : decode cX10_share 5 = .ok (.iload_n 1, 1) := by decide +kernel
theorem dX10_share_6 : decode cX10_share 6 = .ok (.idiv, 1) := by decide +kernel
theorem dX10_share_7 : decode cX10_share 7 = .ok (.goto 4, 3) := by decide +kernel
theorem dX10_share_10 : decode cX10_share 10 = .ok (.iconst 0, 1) := by decide +kernel
theorem dX10_share_11 : decode cX10_share 11 = .ok (.ireturn, 1) := by decide +kernel
theorem dX10_oneStep_0 : decode cX10_oneStep 0 = .ok (.aload_n 0, 1) := by decide +kernel
theorem dX10_oneStep_1 : decode cX10_oneStep 1 = .ok (.getfield 32, 3) := by decide +kernel
theorem dX10_oneStep_4 : decode cX10_oneStep 4 = .ok (.getfield 70, 3) := by decide +kernel
theorem dX10_oneStep_7 : decode cX10_oneStep 7 = .ok (.istore_n 1, 1) := by decide +kernel
theorem dX10_oneStep_8 : decode cX10_oneStep 8 = .ok (.iconst 0, 1) := by decide +kernel
theorem dX10_oneStep_9 : decode cX10_oneStep 9 = .ok (.istore_n 2, 1) := by decide +kernel
theorem dX10_oneStep_10 : decode cX10_oneStep 10 = .ok (.iload_n 2, 1) := by decide +kernel
theorem dX10_oneStep_11 : decode cX10_oneStep 11 = .ok (.aload_n 0, 1) := by decide +kernel
theorem dX10_oneStep_12 : decode cX10_oneStep 12 = .ok (.getfield 32, 3) := by decide +kernel
theorem dX10_oneStep_15 : decode cX10_oneStep 15 = .ok (.getfield 142, 3) := by decide +kernel
theorem dX10_oneStep_18 : decode cX10_oneStep 18 = .ok (.if_icmp .ge 65, 3) := by decide +kernel
theorem dX10_oneStep_21 : decode cX10_oneStep 21 = .ok (.aload_n 0, 1) := by decide +kernel
theorem dX10_oneStep_22 : decode cX10_oneStep 22 = .ok (.getfield 32, 3) := by decide +kernel
theorem dX10_oneStep_25 : decode cX10_oneStep 25 = .ok (.getfield 145, 3) := by decide +kernel
theorem dX10_oneStep_28 : decode cX10_oneStep 28 = .ok (.iload_n 2, 1) := by decide +kernel
theorem dX10_oneStep_29 : decode cX10_oneStep 29 = .ok (.aaload, 1) := by decide +kernel
theorem dX10_oneStep_30 : decode cX10_oneStep 30 = .ok (.astore_n 3, 1) := by decide +kernel
theorem dX10_oneStep_31 : decode cX10_oneStep 31 = .ok (.aload_n 3, 1) := by decide +kernel
theorem dX10_oneStep_32 : decode cX10_oneStep 32 = .ok (.aload_n 0, 1) := by decide +kernel
theorem dX10_oneStep_33 : decode cX10_oneStep 33 = .ok (.getfield 32, 3) := by decide +kernel
theorem dX10_oneStep_36 : decode cX10_oneStep 36 = .ok (.getfield 81, 3) := by decide +kernel
theorem dX10_oneStep_39 : decode cX10_oneStep 39 = .ok (.aload_n 0, 1) := by decide +kernel
theorem dX10_oneStep_40 : decode cX10_oneStep 40 = .ok (.getfield 18, 3) := by decide +kernel
theorem dX10_oneStep_43 : decode cX10_oneStep 43 = .ok (.aload_n 3, 1) := by decide +kernel
theorem dX10_oneStep_44 : decode cX10_oneStep 44 = .ok (.getfield 159, 3) := by decide +kernel
theorem dX10_oneStep_47 : decode cX10_oneStep 47 = .ok (.aaload, 1) := by decide +kernel
theorem dX10_oneStep_48 : decode cX10_oneStep 48 = .ok (.iload_n 1, 1) := by decide +kernel
theorem dX10_oneStep_49 : decode cX10_oneStep 49 = .ok (.invokevirtual 288, 3) := by decide +kernel
theorem dX10_oneStep_52 : decode cX10_oneStep 52 = .ok (.aload_n 0, 1) := by decide +kernel
theorem dX10_oneStep_53 : decode cX10_oneStep 53 = .ok (.getfield 38, 3) := by decide +kernel
theorem dX10_oneStep_56 : decode cX10_oneStep 56 = .ok (.iload_n 2, 1) := by decide +kernel
theorem dX10_oneStep_57 : decode cX10_oneStep 57 = .ok (.aaload, 1) := by decide +kernel
theorem dX10_oneStep_58 : decode cX10_oneStep 58 = .ok (.aload_n 3, 1) := by decide +kernel
theorem dX10_oneStep_59 : decode cX10_oneStep 59 = .ok (.aload_n 0, 1) := by decide +kernel
theorem dX10_oneStep_60 : decode cX10_oneStep 60 = .ok (.getfield 32, 3) := by decide +kernel
theorem dX10_oneStep_63 : decode cX10_oneStep 63 = .ok (.getfield 81, 3) := by decide +kernel
theorem dX10_oneStep_66 : decode cX10_oneStep 66 = .ok (.iload_n 1, 1) := by decide +kernel
theorem dX10_oneStep_67 : decode cX10_oneStep 67 = .ok (.aload_n 0, 1) := by decide +kernel
theorem dX10_oneStep_68 : decode cX10_oneStep 68 = .ok (.getfield 32, 3) := by decide +kernel
theorem dX10_oneStep_71 : decode cX10_oneStep 71 = .ok (.getfield 170, 3) := by decide +kernel
theorem dX10_oneStep_74 : decode cX10_oneStep 74 = .ok (.invokevirtual 292, 3) := by decide +kernel
theorem dX10_oneStep_77 : decode cX10_oneStep 77 = .ok (.iinc 2 1, 3) := by decide +kernel
theorem dX10_oneStep_80 : decode cX10_oneStep 80 = .ok (.goto (-70), 3) := by decide +kernel
theorem dX10_oneStep_83 : decode cX10_oneStep 83 = .ok (.aload_n 0, 1) := by decide +kernel
theorem dX10_oneStep_84 : decode cX10_oneStep 84 = .ok (.getfield 32, 3) := by decide +kernel
theorem dX10_oneStep_87 : decode cX10_oneStep 87 = .ok (.iload_n 1, 1) := by decide +kernel
theorem dX10_oneStep_88 : decode cX10_oneStep 88 = .ok (.iconst 1, 1) := by decide +kernel
theorem dX10_oneStep_89 : decode cX10_oneStep 89 = .ok (.iadd, 1) := by decide +kernel
theorem dX10_oneStep_90 : decode cX10_oneStep 90 = .ok (.putfield 70, 3) := by decide +kernel
theorem dX10_oneStep_93 : decode cX10_oneStep 93 = .ok (.return_, 1) := by decide +kernel
theorem dX10_isAhead_0 : decode cX10_isAhead 0 = .ok (.aload_n 0, 1) := by decide +kernel
theorem dX10_isAhead_1 : decode cX10_isAhead 1 = .ok (.iload_n 1, 1) := by decide +kernel
theorem dX10_isAhead_2 : decode cX10_isAhead 2 = .ok (.invokevirtual 296, 3) := by decide +kernel
theorem dX10_isAhead_5 : decode cX10_isAhead 5 = .ok (.aload_n 0, 1) := by decide +kernel
theorem dX10_isAhead_6 : decode cX10_isAhead 6 = .ok (.iload_n 2, 1) := by decide +kernel
theorem dX10_isAhead_7 : decode cX10_isAhead 7 = .ok (.invokevirtual 296, 3) := by decide +kernel
theorem dX10_isAhead_10 : decode cX10_isAhead 10 = .ok (.invokestatic 299, 3) := by decide +kernel
theorem dX10_isAhead_13 : decode cX10_isAhead 13 = .ok (.istore_n 3, 1) := by decide +kernel
theorem dX10_isAhead_14 : decode cX10_isAhead 14 = .ok (.iload_n 3, 1) := by decide +kernel
theorem dX10_isAhead_15 : decode cX10_isAhead 15 = .ok (.ifCond .eq 13, 3) := by decide +kernel
theorem dX10_isAhead_18 : decode cX10_isAhead 18 = .ok (.iload_n 3, 1) := by decide +kernel
theorem dX10_isAhead_19 : decode cX10_isAhead 19 = .ok (.ifCond .ge 7, 3) := by decide +kernel
theorem dX10_isAhead_22 : decode cX10_isAhead 22 = .ok (.iconst 1, 1) := by decide +kernel
theorem dX10_isAhead_23 : decode cX10_isAhead 23 = .ok (.goto 4, 3) := by decide +kernel
theorem dX10_isAhead_26 : decode cX10_isAhead 26 = .ok (.iconst 0, 1) := by decide +kernel
theorem dX10_isAhead_27 : decode cX10_isAhead 27 = .ok (.ireturn, 1) := by decide +kernel
theorem dX10_isAhead_28 : decode cX10_isAhead 28 = .ok (.aload_n 0, 1) := by decide +kernel
theorem dX10_isAhead_29 : decode cX10_isAhead 29 = .ok (.iload_n 1, 1) := by decide +kernel
theorem dX10_isAhead_30 : decode cX10_isAhead 30 = .ok (.invokevirtual 304, 3) := by decide +kernel
theorem dX10_isAhead_33 : decode cX10_isAhead 33 = .ok (.aload_n 0, 1) := by decide +kernel
theorem dX10_isAhead_34 : decode cX10_isAhead 34 = .ok (.iload_n 2, 1) := by decide +kernel
theorem dX10_isAhead_35 : decode cX10_isAhead 35 = .ok (.invokevirtual 304, 3) := by decide +kernel
theorem dX10_isAhead_38 : decode cX10_isAhead 38 = .ok (.invokestatic 299, 3) := by decide +kernel
theorem dX10_isAhead_41 : decode cX10_isAhead 41 = .ok (.istore 4, 2) := by decide +kernel
theorem dX10_isAhead_43 : decode cX10_isAhead 43 = .ok (.iload 4, 2) := by decide +kernel
theorem dX10_isAhead_45 : decode cX10_isAhead 45 = .ok (.ifCond .eq 16, 3) := by decide +kernel
theorem dX10_isAhead_48 : decode cX10_isAhead 48 = .ok (.iload 4, 2) := by decide +kernel
theorem dX10_isAhead_50 : decode cX10_isAhead 50 = .ok (.ifCond .ge 7, 3) := by decide +kernel
theorem dX10_isAhead_53 : decode cX10_isAhead 53 = .ok (.iconst 1, 1) := by decide +kernel
theorem dX10_isAhead_54 : decode cX10_isAhead 54 = .ok (.goto 17, 3) := by decide +kernel
theorem dX10_isAhead_57 : decode cX10_isAhead 57 = .ok (.iconst 0, 1) := by decide +kernel
theorem dX10_isAhead_58 : decode cX10_isAhead 58 = .ok (.goto 13, 3) := by decide +kernel
theorem dX10_isAhead_61 : decode cX10_isAhead 61 = .ok (.iload_n 1, 1) := by decide +kernel
theorem dX10_isAhead_62 : decode cX10_isAhead 62 = .ok (.iload_n 2, 1) := by decide +kernel
theorem dX10_isAhead_63 : decode cX10_isAhead 63 = .ok (.if_icmp .ge 7, 3) := by decide +kernel
theorem dX10_isAhead_66 : decode cX10_isAhead 66 = .ok (.iconst 1, 1) := by decide +kernel
theorem dX10_isAhead_67 : decode cX10_isAhead 67 = .ok (.goto 4, 3) := by decide +kernel
theorem dX10_isAhead_70 : decode cX10_isAhead 70 = .ok (.iconst 0, 1) := by decide +kernel
theorem dX10_isAhead_71 : decode cX10_isAhead 71 = .ok (.ireturn, 1) := by decide +kernel
theorem dX10_groupOf_0 : decode cX10_groupOf 0 = .ok (.aload_n 0, 1) := by decide +kernel
theorem dX10_groupOf_1 : decode cX10_groupOf 1 = .ok (.getfield 32, 3) := by decide +kernel
theorem dX10_groupOf_4 : decode cX10_groupOf 4 = .ok (.getfield 145, 3) := by decide +kernel
theorem dX10_groupOf_7 : decode cX10_groupOf 7 = .ok (.iload_n 1, 1) := by decide +kernel
theorem dX10_groupOf_8 : decode cX10_groupOf 8 = .ok (.aaload, 1) := by decide +kernel
theorem dX10_groupOf_9 : decode cX10_groupOf 9 = .ok (.getfield 179, 3) := by decide +kernel
theorem dX10_groupOf_12 : decode cX10_groupOf 12 = .ok (.tableswitch 34 0 2 #[32, 30, 28], 28) := by decide +kernel
theorem dX10_groupOf_40 : decode cX10_groupOf 40 = .ok (.iconst 0, 1) := by decide +kernel
theorem dX10_groupOf_41 : decode cX10_groupOf 41 = .ok (.ireturn, 1) := by decide +kernel
theorem dX10_groupOf_42 : decode cX10_groupOf 42 = .ok (.iconst 1, 1) := by decide +kernel
theorem dX10_groupOf_43 : decode cX10_groupOf 43 = .ok (.ireturn, 1) := by decide +kernel
theorem dX10_groupOf_44 : decode cX10_groupOf 44 = .ok (.iconst 2, 1) := by decide +kernel
theorem dX10_groupOf_45 : decode cX10_groupOf 45 = .ok (.ireturn, 1) := by decide +kernel
theorem dX10_groupOf_46 : decode cX10_groupOf 46 = .ok (.iconst 3, 1) := by decide +kernel
theorem dX10_groupOf_47 : decode cX10_groupOf 47 = .ok (.ireturn, 1) := by decide +kernel
theorem dX10_valueInGroup_0 : decode cX10_valueInGroup 0 = .ok (.aload_n 0, 1) := by decide +kernel
theorem dX10_valueInGroup_1 : decode cX10_valueInGroup 1 = .ok (.getfield 32, 3) := by decide +kernel
theorem dX10_valueInGroup_4 : decode cX10_valueInGroup 4 = .ok (.getfield 145, 3) := by decide +kernel
theorem dX10_valueInGroup_7 : decode cX10_valueInGroup 7 = .ok (.iload_n 1, 1) := by decide +kernel
theorem dX10_valueInGroup_8 : decode cX10_valueInGroup 8 = .ok (.aaload, 1) := by decide +kernel
theorem dX10_valueInGroup_9 : decode cX10_valueInGroup 9 = .ok (.astore_n 2, 1) := by decide +kernel
theorem dX10_valueInGroup_10 : decode cX10_valueInGroup 10 = .ok (.aload_n 2, 1) := by decide +kernel
theorem dX10_valueInGroup_11 : decode cX10_valueInGroup 11 = .ok (.getfield 179, 3) := by decide +kernel
theorem dX10_valueInGroup_14 : decode cX10_valueInGroup 14 = .ok (.lookupswitch 58 #[(1, 45), (2, 26)], 26) := by decide +kernel
theorem dX10_valueInGroup_40 : decode cX10_valueInGroup 40 = .ok (.aload_n 0, 1) := by decide +kernel
theorem dX10_valueInGroup_41 : decode cX10_valueInGroup 41 = .ok (.getfield 25, 3) := by decide +kernel
theorem dX10_valueInGroup_44 : decode cX10_valueInGroup 44 = .ok (.aload_n 2, 1) := by decide +kernel
theorem dX10_valueInGroup_45 : decode cX10_valueInGroup 45 = .ok (.aload_n 0, 1) := by decide +kernel
theorem dX10_valueInGroup_46 : decode cX10_valueInGroup 46 = .ok (.getfield 32, 3) := by decide +kernel
theorem dX10_valueInGroup_49 : decode cX10_valueInGroup 49 = .ok (.getfield 81, 3) := by decide +kernel
theorem dX10_valueInGroup_52 : decode cX10_valueInGroup 52 = .ok (.getfield 85, 3) := by decide +kernel
theorem dX10_valueInGroup_55 : decode cX10_valueInGroup 55 = .ok (.invokevirtual 245, 3) := by decide +kernel
theorem dX10_valueInGroup_58 : decode cX10_valueInGroup 58 = .ok (.ireturn, 1) := by decide +kernel
theorem dX10_valueInGroup_59 : decode cX10_valueInGroup 59 = .ok (.aload_n 2, 1) := by decide +kernel
theorem dX10_valueInGroup_60 : decode cX10_valueInGroup 60 = .ok (.aload_n 0, 1) := by decide +kernel
theorem dX10_valueInGroup_61 : decode cX10_valueInGroup 61 = .ok (.getfield 32, 3) := by decide +kernel
theorem dX10_valueInGroup_64 : decode cX10_valueInGroup 64 = .ok (.getfield 81, 3) := by decide +kernel
theorem dX10_valueInGroup_67 : decode cX10_valueInGroup 67 = .ok (.invokevirtual 188, 3) := by decide +kernel
theorem dX10_valueInGroup_70 : decode cX10_valueInGroup 70 = .ok (.ineg, 1) := by decide +kernel
theorem dX10_valueInGroup_71 : decode cX10_valueInGroup 71 = .ok (.ireturn, 1) := by decide +kernel
theorem dX10_valueInGroup_72 : decode cX10_valueInGroup 72 = .ok (.iconst 0, 1) := by decide +kernel
theorem dX10_valueInGroup_73 : decode cX10_valueInGroup 73 = .ok (.ireturn, 1) := by decide +kernel
theorem dX10_leastWay_0 : decode cX10_leastWay 0 = .ok (.aload_n 0, 1) := by decide +kernel
theorem dX10_leastWay_1 : decode cX10_leastWay 1 = .ok (.getfield 38, 3) := by decide +kernel
theorem dX10_leastWay_4 : decode cX10_leastWay 4 = .ok (.iload_n 1, 1) := by decide +kernel
theorem dX10_leastWay_5 : decode cX10_leastWay 5 = .ok (.aaload, 1) := by decide +kernel
theorem dX10_leastWay_6 : decode cX10_leastWay 6 = .ok (.astore_n 3, 1) := by decide +kernel
theorem dX10_leastWay_7 : decode cX10_leastWay 7 = .ok (.aload_n 0, 1) := by decide +kernel
theorem dX10_leastWay_8 : decode cX10_leastWay 8 = .ok (.getfield 32, 3) := by decide +kernel
theorem dX10_leastWay_11 : decode cX10_leastWay 11 = .ok (.getfield 170, 3) := by decide +kernel
theorem dX10_leastWay_14 : decode cX10_leastWay 14 = .ok (.istore 4, 2) := by decide +kernel
theorem dX10_leastWay_16 : decode cX10_leastWay 16 = .ok (.aload_n 3, 1) := by decide +kernel
theorem dX10_leastWay_17 : decode cX10_leastWay 17 = .ok (.iload 4, 2) := by decide +kernel
theorem dX10_leastWay_19 : decode cX10_leastWay 19 = .ok (.iload_n 2, 1) := by decide +kernel
theorem dX10_leastWay_20 : decode cX10_leastWay 20 = .ok (.invokevirtual 307, 3) := by decide +kernel
theorem dX10_leastWay_23 : decode cX10_leastWay 23 = .ok (.istore 5, 2) := by decide +kernel
theorem dX10_leastWay_25 : decode cX10_leastWay 25 = .ok (.aload_n 3, 1) := by decide +kernel
theorem dX10_leastWay_26 : decode cX10_leastWay 26 = .ok (.iload 4, 2) := by decide +kernel
theorem dX10_leastWay_28 : decode cX10_leastWay 28 = .ok (.iload_n 2, 1) := by decide +kernel
theorem dX10_leastWay_29 : decode cX10_leastWay 29 = .ok (.aload_n 0, 1) := by decide +kernel
theorem dX10_leastWay_30 : decode cX10_leastWay 30 = .ok (.getfield 32, 3) := by decide +kernel
theorem dX10_leastWay_33 : decode cX10_leastWay 33 = .ok (.getfield 70, 3) := by decide +kernel
theorem dX10_leastWay_36 : decode cX10_leastWay 36 = .ok (.invokevirtual 310, 3) := by decide +kernel
theorem dX10_leastWay_39 : decode cX10_leastWay 39 = .ok (.istore 6, 2) := by decide +kernel
theorem dX10_leastWay_41 : decode cX10_leastWay 41 = .ok (.iload 5, 2) := by decide +kernel
theorem dX10_leastWay_43 : decode cX10_leastWay 43 = .ok (.iconst (-1), 1) := by decide +kernel
theorem dX10_leastWay_44 : decode cX10_leastWay 44 = .ok (.if_icmp .ne 7, 3) := by decide +kernel
theorem dX10_leastWay_47 : decode cX10_leastWay 47 = .ok (.iconst 0, 1) := by decide +kernel
theorem dX10_leastWay_48 : decode cX10_leastWay 48 = .ok (.goto 10, 3) := by decide +kernel
theorem dX10_leastWay_51 : decode cX10_leastWay 51 = .ok (.aload_n 3, 1) := by decide +kernel
theorem dX10_leastWay_52 : decode cX10_leastWay 52 = .ok (.getfield 314, 3) := by decide +kernel
theorem dX10_leastWay_55 : decode cX10_leastWay 55 = .ok (.iload 5, 2) := by decide +kernel
theorem dX10_leastWay_57 : decode cX10_leastWay 57 = .ok (.iaload, 1) := by decide +kernel
theorem dX10_leastWay_58 : decode cX10_leastWay 58 = .ok (.istore 7, 2) := by decide +kernel
theorem dX10_leastWay_60 : decode cX10_leastWay 60 = .ok (.iload 6, 2) := by decide +kernel
theorem dX10_leastWay_62 : decode cX10_leastWay 62 = .ok (.iconst (-1), 1) := by decide +kernel
theorem dX10_leastWay_63 : decode cX10_leastWay 63 = .ok (.if_icmp .ne 6, 3) := by decide +kernel
theorem dX10_leastWay_66 : decode cX10_leastWay 66 = .ok (.iload 7, 2) := by decide +kernel
theorem dX10_leastWay_68 : decode cX10_leastWay 68 = .ok (.ireturn, 1) := by decide +kernel
theorem dX10_leastWay_69 : decode cX10_leastWay 69 = .ok (.iload 7, 2) := by decide +kernel
theorem dX10_leastWay_71 : decode cX10_leastWay 71 = .ok (.aload_n 3, 1) := by decide +kernel
theorem dX10_leastWay_72 : decode cX10_leastWay 72 = .ok (.getfield 314, 3) := by decide +kernel
theorem dX10_leastWay_75 : decode cX10_leastWay 75 = .ok (.iload 6, 2) := by decide +kernel
theorem dX10_leastWay_77 : decode cX10_leastWay 77 = .ok (.iaload, 1) := by decide +kernel
theorem dX10_leastWay_78 : decode cX10_leastWay 78 = .ok (.bipush 60, 2) := by decide +kernel
theorem dX10_leastWay_80 : decode cX10_leastWay 80 = .ok (.iload 6, 2) := by decide +kernel
theorem dX10_leastWay_82 : decode cX10_leastWay 82 = .ok (.iload 4, 2) := by decide +kernel
theorem dX10_leastWay_84 : decode cX10_leastWay 84 = .ok (.imul, 1) := by decide +kernel
theorem dX10_leastWay_85 : decode cX10_leastWay 85 = .ok (.iload_n 2, 1) := by decide +kernel
theorem dX10_leastWay_86 : decode cX10_leastWay 86 = .ok (.isub, 1) := by decide +kernel
theorem dX10_leastWay_87 : decode cX10_leastWay 87 = .ok (.imul, 1) := by decide +kernel
theorem dX10_leastWay_88 : decode cX10_leastWay 88 = .ok (.isub, 1) := by decide +kernel
theorem dX10_leastWay_89 : decode cX10_leastWay 89 = .ok (.invokestatic 101, 3) := by decide +kernel
theorem dX10_leastWay_92 : decode cX10_leastWay 92 = .ok (.ireturn, 1) := by decide +kernel
theorem dX10_greatestWay_0 : decode cX10_greatestWay 0 = .ok (.aload_n 0, 1) := by decide +kernel
theorem dX10_greatestWay_1 : decode cX10_greatestWay 1 = .ok (.getfield 38, 3) := by decide +kernel
theorem dX10_greatestWay_4 : decode cX10_greatestWay 4 = .ok (.iload_n 1, 1) := by decide +kernel
theorem dX10_greatestWay_5 : decode cX10_greatestWay 5 = .ok (.aaload, 1) := by decide +kernel
theorem dX10_greatestWay_6 : decode cX10_greatestWay 6 = .ok (.astore_n 3, 1) := by decide +kernel
theorem dX10_greatestWay_7 : decode cX10_greatestWay 7 = .ok (.aload_n 0, 1) := by decide +kernel
theorem dX10_greatestWay_8 : decode cX10_greatestWay 8 = .ok (.getfield 32, 3) := by decide +kernel
theorem dX10_greatestWay_11 : decode cX10_greatestWay 11 = .ok (.getfield 170, 3) := by decide +kernel
theorem dX10_greatestWay_14 : decode cX10_greatestWay 14 = .ok (.istore 4, 2) := by decide +kernel
theorem dX10_greatestWay_16 : decode cX10_greatestWay 16 = .ok (.aload_n 3, 1) := by decide +kernel
theorem dX10_greatestWay_17 : decode cX10_greatestWay 17 = .ok (.iload 4, 2) := by decide +kernel
theorem dX10_greatestWay_19 : decode cX10_greatestWay 19 = .ok (.iload_n 2, 1) := by decide +kernel
theorem dX10_greatestWay_20 : decode cX10_greatestWay 20 = .ok (.invokevirtual 307, 3) := by decide +kernel
theorem dX10_greatestWay_23 : decode cX10_greatestWay 23 = .ok (.istore 5, 2) := by decide +kernel
theorem dX10_greatestWay_25 : decode cX10_greatestWay 25 = .ok (.aload_n 3, 1) := by decide +kernel
theorem dX10_greatestWay_26 : decode cX10_greatestWay 26 = .ok (.iload 4, 2) := by decide +kernel
theorem dX10_greatestWay_28 : decode cX10_greatestWay 28 = .ok (.iload_n 2, 1) := by decide +kernel
theorem dX10_greatestWay_29 : decode cX10_greatestWay 29 = .ok (.aload_n 0, 1) := by decide +kernel
theorem dX10_greatestWay_30 : decode cX10_greatestWay 30 = .ok (.getfield 32, 3) := by decide +kernel
theorem dX10_greatestWay_33 : decode cX10_greatestWay 33 = .ok (.getfield 70, 3) := by decide +kernel
theorem dX10_greatestWay_36 : decode cX10_greatestWay 36 = .ok (.invokevirtual 310, 3) := by decide +kernel
theorem dX10_greatestWay_39 : decode cX10_greatestWay 39 = .ok (.istore 6, 2) := by decide +kernel
theorem dX10_greatestWay_41 : decode cX10_greatestWay 41 = .ok (.iload 6, 2) := by decide +kernel
theorem dX10_greatestWay_43 : decode cX10_greatestWay 43 = .ok (.iconst (-1), 1) := by decide +kernel
theorem dX10_greatestWay_44 : decode cX10_greatestWay 44 = .ok (.if_icmp .ne 16, 3) := by decide +kernel
theorem dX10_greatestWay_47 : decode cX10_greatestWay 47 = .ok (.aload_n 0, 1) := by decide +kernel
theorem dX10_greatestWay_48 : decode cX10_greatestWay 48 = .ok (.getfield 32, 3) := by decide +kernel
theorem dX10_greatestWay_51 : decode cX10_greatestWay 51 = .ok (.getfield 81, 3) := by decide +kernel
theorem dX10_greatestWay_54 : decode cX10_greatestWay 54 = .ok (.invokevirtual 285, 3) := by decide +kernel
theorem dX10_greatestWay_57 : decode cX10_greatestWay 57 = .ok (.goto 10, 3) := by decide +kernel
theorem dX10_greatestWay_60 : decode cX10_greatestWay 60 = .ok (.aload_n 3, 1) := by decide +kernel
theorem dX10_greatestWay_61 : decode cX10_greatestWay 61 = .ok (.getfield 314, 3) := by decide +kernel
theorem dX10_greatestWay_64 : decode cX10_greatestWay 64 = .ok (.iload 6, 2) := by decide +kernel
theorem dX10_greatestWay_66 : decode cX10_greatestWay 66 = .ok (.iaload, 1) := by decide +kernel
theorem dX10_greatestWay_67 : decode cX10_greatestWay 67 = .ok (.istore 7, 2) := by decide +kernel
theorem dX10_greatestWay_69 : decode cX10_greatestWay 69 = .ok (.iload 5, 2) := by decide +kernel
theorem dX10_greatestWay_71 : decode cX10_greatestWay 71 = .ok (.iconst (-1), 1) := by decide +kernel
theorem dX10_greatestWay_72 : decode cX10_greatestWay 72 = .ok (.if_icmp .ne 36, 3) := by decide +kernel
theorem dX10_greatestWay_75 : decode cX10_greatestWay 75 = .ok (.iconst 0, 1) := by decide +kernel
theorem dX10_greatestWay_76 : decode cX10_greatestWay 76 = .ok (.iload_n 2, 1) := by decide +kernel
theorem dX10_greatestWay_77 : decode cX10_greatestWay 77 = .ok (.aload_n 0, 1) := by decide +kernel
theorem dX10_greatestWay_78 : decode cX10_greatestWay 78 = .ok (.getfield 32, 3) := by decide +kernel
theorem dX10_greatestWay_81 : decode cX10_greatestWay 81 = .ok (.getfield 145, 3) := by decide +kernel
theorem dX10_greatestWay_84 : decode cX10_greatestWay 84 = .ok (.iload_n 1, 1) := by decide +kernel
theorem dX10_greatestWay_85 : decode cX10_greatestWay 85 = .ok (.aaload, 1) := by decide +kernel
theorem dX10_greatestWay_86 : decode cX10_greatestWay 86 = .ok (.getfield 218, 3) := by decide +kernel
theorem dX10_greatestWay_89 : decode cX10_greatestWay 89 = .ok (.isub, 1) := by decide +kernel
theorem dX10_greatestWay_90 : decode cX10_greatestWay 90 = .ok (.iconst 1, 1) := by decide +kernel
theorem dX10_greatestWay_91 : decode cX10_greatestWay 91 = .ok (.iadd, 1) := by decide +kernel
theorem dX10_greatestWay_92 : decode cX10_greatestWay 92 = .ok (.invokestatic 101, 3) := by decide +kernel
theorem dX10_greatestWay_95 : decode cX10_greatestWay 95 = .ok (.istore 8, 2) := by decide +kernel
theorem dX10_greatestWay_97 : decode cX10_greatestWay 97 = .ok (.iload 7, 2) := by decide +kernel
theorem dX10_greatestWay_99 : decode cX10_greatestWay 99 = .ok (.bipush 60, 2) := by decide +kernel
theorem dX10_greatestWay_101 : decode cX10_greatestWay 101 = .ok (.iload 8, 2) := by decide +kernel
theorem dX10_greatestWay_103 : decode cX10_greatestWay 103 = .ok (.imul, 1) := by decide +kernel
theorem dX10_greatestWay_104 : decode cX10_greatestWay 104 = .ok (.invokestatic 317, 3) := by decide +kernel
theorem dX10_greatestWay_107 : decode cX10_greatestWay 107 = .ok (.ireturn, 1) := by decide +kernel
theorem dX10_greatestWay_108 : decode cX10_greatestWay 108 = .ok (.iload 7, 2) := by decide +kernel
theorem dX10_greatestWay_110 : decode cX10_greatestWay 110 = .ok (.aload_n 3, 1) := by decide +kernel
theorem dX10_greatestWay_111 : decode cX10_greatestWay 111 = .ok (.getfield 314, 3) := by decide +kernel
theorem dX10_greatestWay_114 : decode cX10_greatestWay 114 = .ok (.iload 5, 2) := by decide +kernel
theorem dX10_greatestWay_116 : decode cX10_greatestWay 116 = .ok (.iaload, 1) := by decide +kernel
theorem dX10_greatestWay_117 : decode cX10_greatestWay 117 = .ok (.bipush 60, 2) := by decide +kernel
theorem dX10_greatestWay_119 : decode cX10_greatestWay 119 = .ok (.iload_n 2, 1) := by decide +kernel
theorem dX10_greatestWay_120 : decode cX10_greatestWay 120 = .ok (.iload 5, 2) := by decide +kernel
theorem dX10_greatestWay_122 : decode cX10_greatestWay 122 = .ok (.iload 4, 2) := by decide +kernel
theorem dX10_greatestWay_124 : decode cX10_greatestWay 124 = .ok (.imul, 1) := by decide +kernel
theorem dX10_greatestWay_125 : decode cX10_greatestWay 125 = .ok (.isub, 1) := by decide +kernel
theorem dX10_greatestWay_126 : decode cX10_greatestWay 126 = .ok (.imul, 1) := by decide +kernel
theorem dX10_greatestWay_127 : decode cX10_greatestWay 127 = .ok (.iadd, 1) := by decide +kernel
theorem dX10_greatestWay_128 : decode cX10_greatestWay 128 = .ok (.invokestatic 317, 3) := by decide +kernel
theorem dX10_greatestWay_131 : decode cX10_greatestWay 131 = .ok (.ireturn, 1) := by decide +kernel
theorem dX10_bringGhost_0 : decode cX10_bringGhost 0 = .ok (.iload_n 1, 1) := by decide +kernel
theorem dX10_bringGhost_1 : decode cX10_bringGhost 1 = .ok (.aload_n 0, 1) := by decide +kernel
theorem dX10_bringGhost_2 : decode cX10_bringGhost 2 = .ok (.getfield 59, 3) := by decide +kernel
theorem dX10_bringGhost_5 : decode cX10_bringGhost 5 = .ok (.if_icmp .ne 11, 3) := by decide +kernel
theorem dX10_bringGhost_8 : decode cX10_bringGhost 8 = .ok (.iload_n 2, 1) := by decide +kernel
theorem dX10_bringGhost_9 : decode cX10_bringGhost 9 = .ok (.aload_n 0, 1) := by decide +kernel
theorem dX10_bringGhost_10 : decode cX10_bringGhost 10 = .ok (.getfield 62, 3) := by decide +kernel
theorem dX10_bringGhost_13 : decode cX10_bringGhost 13 = .ok (.if_icmp .eq 35, 3) := by decide +kernel
theorem dX10_bringGhost_16 : decode cX10_bringGhost 16 = .ok (.aload_n 0, 1) := by decide +kernel
theorem dX10_bringGhost_17 : decode cX10_bringGhost 17 = .ok (.getfield 32, 3) := by decide +kernel
theorem dX10_bringGhost_20 : decode cX10_bringGhost 20 = .ok (.getfield 145, 3) := by decide +kernel
theorem dX10_bringGhost_23 : decode cX10_bringGhost 23 = .ok (.iload_n 1, 1) := by decide +kernel
theorem dX10_bringGhost_24 : decode cX10_bringGhost 24 = .ok (.aaload, 1) := by decide +kernel
theorem dX10_bringGhost_25 : decode cX10_bringGhost 25 = .ok (.aload_n 0, 1) := by decide +kernel
theorem dX10_bringGhost_26 : decode cX10_bringGhost 26 = .ok (.getfield 45, 3) := by decide +kernel
theorem dX10_bringGhost_29 : decode cX10_bringGhost 29 = .ok (.iload_n 2, 1) := by decide +kernel
theorem dX10_bringGhost_30 : decode cX10_bringGhost 30 = .ok (.invokevirtual 320, 3) := by decide +kernel
theorem dX10_bringGhost_33 : decode cX10_bringGhost 33 = .ok (.aload_n 0, 1) := by decide +kernel
theorem dX10_bringGhost_34 : decode cX10_bringGhost 34 = .ok (.iload_n 1, 1) := by decide +kernel
theorem dX10_bringGhost_35 : decode cX10_bringGhost 35 = .ok (.putfield 59, 3) := by decide +kernel
theorem dX10_bringGhost_38 : decode cX10_bringGhost 38 = .ok (.aload_n 0, 1) := by decide +kernel
theorem dX10_bringGhost_39 : decode cX10_bringGhost 39 = .ok (.iload_n 2, 1) := by decide +kernel
theorem dX10_bringGhost_40 : decode cX10_bringGhost 40 = .ok (.putfield 62, 3) := by decide +kernel
theorem dX10_bringGhost_43 : decode cX10_bringGhost 43 = .ok (.aload_n 0, 1) := by decide +kernel
theorem dX10_bringGhost_44 : decode cX10_bringGhost 44 = .ok (.iconst 0, 1) := by decide +kernel
theorem dX10_bringGhost_45 : decode cX10_bringGhost 45 = .ok (.putfield 65, 3) := by decide +kernel
theorem dX10_bringGhost_48 : decode cX10_bringGhost 48 = .ok (.aload_n 0, 1) := by decide +kernel
theorem dX10_bringGhost_49 : decode cX10_bringGhost 49 = .ok (.getfield 65, 3) := by decide +kernel
theorem dX10_bringGhost_52 : decode cX10_bringGhost 52 = .ok (.aload_n 0, 1) := by decide +kernel
theorem dX10_bringGhost_53 : decode cX10_bringGhost 53 = .ok (.getfield 32, 3) := by decide +kernel
theorem dX10_bringGhost_56 : decode cX10_bringGhost 56 = .ok (.getfield 70, 3) := by decide +kernel
theorem dX10_bringGhost_59 : decode cX10_bringGhost 59 = .ok (.if_icmp .ge 40, 3) := by decide +kernel
theorem dX10_bringGhost_62 : decode cX10_bringGhost 62 = .ok (.aload_n 0, 1) := by decide +kernel
theorem dX10_bringGhost_63 : decode cX10_bringGhost 63 = .ok (.getfield 45, 3) := by decide +kernel
theorem dX10_bringGhost_66 : decode cX10_bringGhost 66 = .ok (.aload_n 0, 1) := by decide +kernel
theorem dX10_bringGhost_67 : decode cX10_bringGhost 67 = .ok (.getfield 32, 3) := by decide +kernel
theorem dX10_bringGhost_70 : decode cX10_bringGhost 70 = .ok (.getfield 81, 3) := by decide +kernel
theorem dX10_bringGhost_73 : decode cX10_bringGhost 73 = .ok (.aload_n 0, 1) := by decide +kernel
theorem dX10_bringGhost_74 : decode cX10_bringGhost 74 = .ok (.getfield 18, 3) := by decide +kernel
theorem dX10_bringGhost_77 : decode cX10_bringGhost 77 = .ok (.iload_n 2, 1) := by decide +kernel
theorem dX10_bringGhost_78 : decode cX10_bringGhost 78 = .ok (.aaload, 1) := by decide +kernel
theorem dX10_bringGhost_79 : decode cX10_bringGhost 79 = .ok (.aload_n 0, 1) := by decide +kernel
theorem dX10_bringGhost_80 : decode cX10_bringGhost 80 = .ok (.getfield 65, 3) := by decide +kernel
theorem dX10_bringGhost_83 : decode cX10_bringGhost 83 = .ok (.invokevirtual 288, 3) := by decide +kernel
theorem dX10_bringGhost_86 : decode cX10_bringGhost 86 = .ok (.aload_n 0, 1) := by decide +kernel
theorem dX10_bringGhost_87 : decode cX10_bringGhost 87 = .ok (.dup, 1) := by decide +kernel
theorem dX10_bringGhost_88 : decode cX10_bringGhost 88 = .ok (.getfield 65, 3) := by decide +kernel
theorem dX10_bringGhost_91 : decode cX10_bringGhost 91 = .ok (.iconst 1, 1) := by decide +kernel
theorem dX10_bringGhost_92 : decode cX10_bringGhost 92 = .ok (.iadd, 1) := by decide +kernel
theorem dX10_bringGhost_93 : decode cX10_bringGhost 93 = .ok (.putfield 65, 3) := by decide +kernel
theorem dX10_bringGhost_96 : decode cX10_bringGhost 96 = .ok (.goto (-48), 3) := by decide +kernel
theorem dX10_bringGhost_99 : decode cX10_bringGhost 99 = .ok (.return_, 1) := by decide +kernel
