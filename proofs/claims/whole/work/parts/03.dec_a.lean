theorem dX0_init_0 : decode cX0_init 0 = .ok (.aload_n 0, 1) := by decide +kernel
theorem dX0_init_1 : decode cX0_init 1 = .ok (.invokespecial 3, 3) := by decide +kernel
theorem dX0_init_4 : decode cX0_init 4 = .ok (.aload_n 0, 1) := by decide +kernel
theorem dX0_init_5 : decode cX0_init 5 = .ok (.bipush 16, 2) := by decide +kernel
theorem dX0_init_7 : decode cX0_init 7 = .ok (.newarray .int, 2) := by decide +kernel
theorem dX0_init_9 : decode cX0_init 9 = .ok (.putfield 9, 3) := by decide +kernel
theorem dX0_init_12 : decode cX0_init 12 = .ok (.aload_n 0, 1) := by decide +kernel
theorem dX0_init_13 : decode cX0_init 13 = .ok (.bipush 16, 2) := by decide +kernel
theorem dX0_init_15 : decode cX0_init 15 = .ok (.newarray .int, 2) := by decide +kernel
theorem dX0_init_17 : decode cX0_init 17 = .ok (.putfield 15, 3) := by decide +kernel
theorem dX0_init_20 : decode cX0_init 20 = .ok (.aload_n 0, 1) := by decide +kernel
theorem dX0_init_21 : decode cX0_init 21 = .ok (.bipush 16, 2) := by decide +kernel
theorem dX0_init_23 : decode cX0_init 23 = .ok (.newarray .int, 2) := by decide +kernel
theorem dX0_init_25 : decode cX0_init 25 = .ok (.putfield 18, 3) := by decide +kernel
theorem dX0_init_28 : decode cX0_init 28 = .ok (.aload_n 0, 1) := by decide +kernel
theorem dX0_init_29 : decode cX0_init 29 = .ok (.iconst 0, 1) := by decide +kernel
theorem dX0_init_30 : decode cX0_init 30 = .ok (.putfield 21, 3) := by decide +kernel
theorem dX0_init_33 : decode cX0_init 33 = .ok (.aload_n 0, 1) := by decide +kernel
theorem dX0_init_34 : decode cX0_init 34 = .ok (.iconst 0, 1) := by decide +kernel
theorem dX0_init_35 : decode cX0_init 35 = .ok (.putfield 25, 3) := by decide +kernel
theorem dX0_init_38 : decode cX0_init 38 = .ok (.aload_n 0, 1) := by decide +kernel
theorem dX0_init_39 : decode cX0_init 39 = .ok (.iconst 0, 1) := by decide +kernel
theorem dX0_init_40 : decode cX0_init 40 = .ok (.putfield 28, 3) := by decide +kernel
theorem dX0_init_43 : decode cX0_init 43 = .ok (.return_, 1) := by decide +kernel
theorem dX0_begin_0 : decode cX0_begin 0 = .ok (.aload_n 0, 1) := by decide +kernel
theorem dX0_begin_1 : decode cX0_begin 1 = .ok (.iload_n 1, 1) := by decide +kernel
theorem dX0_begin_2 : decode cX0_begin 2 = .ok (.bipush 16, 2) := by decide +kernel
theorem dX0_begin_4 : decode cX0_begin 4 = .ok (.invokestatic 31, 3) := by decide +kernel
theorem dX0_begin_7 : decode cX0_begin 7 = .ok (.putfield 21, 3) := by decide +kernel
theorem dX0_begin_10 : decode cX0_begin 10 = .ok (.aload_n 0, 1) := by decide +kernel
theorem dX0_begin_11 : decode cX0_begin 11 = .ok (.aload_n 0, 1) := by decide +kernel
theorem dX0_begin_12 : decode cX0_begin 12 = .ok (.getfield 21, 3) := by decide +kernel
theorem dX0_begin_15 : decode cX0_begin 15 = .ok (.putfield 25, 3) := by decide +kernel
theorem dX0_begin_18 : decode cX0_begin 18 = .ok (.aload_n 0, 1) := by decide +kernel
theorem dX0_begin_19 : decode cX0_begin 19 = .ok (.iconst 0, 1) := by decide +kernel
theorem dX0_begin_20 : decode cX0_begin 20 = .ok (.putfield 28, 3) := by decide +kernel
theorem dX0_begin_23 : decode cX0_begin 23 = .ok (.iconst 0, 1) := by decide +kernel
theorem dX0_begin_24 : decode cX0_begin 24 = .ok (.istore_n 2, 1) := by decide +kernel
theorem dX0_begin_25 : decode cX0_begin 25 = .ok (.iload_n 2, 1) := by decide +kernel
theorem dX0_begin_26 : decode cX0_begin 26 = .ok (.aload_n 0, 1) := by decide +kernel
theorem dX0_begin_27 : decode cX0_begin 27 = .ok (.getfield 21, 3) := by decide +kernel
theorem dX0_begin_30 : decode cX0_begin 30 = .ok (.if_icmp .ge 32, 3) := by decide +kernel
theorem dX0_begin_33 : decode cX0_begin 33 = .ok (.aload_n 0, 1) := by decide +kernel
theorem dX0_begin_34 : decode cX0_begin 34 = .ok (.getfield 9, 3) := by decide +kernel
theorem dX0_begin_37 : decode cX0_begin 37 = .ok (.iload_n 2, 1) := by decide +kernel
theorem dX0_begin_38 : decode cX0_begin 38 = .ok (.sipush 1000, 3) := by decide +kernel
theorem dX0_begin_41 : decode cX0_begin 41 = .ok (.iastore, 1) := by decide +kernel
theorem dX0_begin_42 : decode cX0_begin 42 = .ok (.aload_n 0, 1) := by decide +kernel
theorem dX0_begin_43 : decode cX0_begin 43 = .ok (.getfield 15, 3) := by decide +kernel
theorem dX0_begin_46 : decode cX0_begin 46 = .ok (.iload_n 2, 1) := by decide +kernel
theorem dX0_begin_47 : decode cX0_begin 47 = .ok (.iconst 0, 1) := by decide +kernel
theorem dX0_begin_48 : decode cX0_begin 48 = .ok (.iastore, 1) := by decide +kernel
theorem dX0_begin_49 : decode cX0_begin 49 = .ok (.aload_n 0, 1) := by decide +kernel
theorem dX0_begin_50 : decode cX0_begin 50 = .ok (.getfield 18, 3) := by decide +kernel
theorem dX0_begin_53 : decode cX0_begin 53 = .ok (.iload_n 2, 1) := by decide +kernel
theorem dX0_begin_54 : decode cX0_begin 54 = .ok (.iconst (-1), 1) := by decide +kernel
theorem dX0_begin_55 : decode cX0_begin 55 = .ok (.iastore, 1) := by decide +kernel
theorem dX0_begin_56 : decode cX0_begin 56 = .ok (.iinc 2 1, 3) := by decide +kernel
theorem dX0_begin_59 : decode cX0_begin 59 = .ok (.goto (-34), 3) := by decide +kernel
theorem dX0_begin_62 : decode cX0_begin 62 = .ok (.return_, 1) := by decide +kernel
theorem dX0_copyFrom_0 : decode cX0_copyFrom 0 = .ok (.aload_n 1, 1) := by decide +kernel
theorem dX0_copyFrom_1 : decode cX0_copyFrom 1 = .ok (.getfield 9, 3) := by decide +kernel
theorem dX0_copyFrom_4 : decode cX0_copyFrom 4 = .ok (.iconst 0, 1) := by decide +kernel
theorem dX0_copyFrom_5 : decode cX0_copyFrom 5 = .ok (.aload_n 0, 1) := by decide +kernel
theorem dX0_copyFrom_6 : decode cX0_copyFrom 6 = .ok (.getfield 9, 3) := by decide +kernel
theorem dX0_copyFrom_9 : decode cX0_copyFrom 9 = .ok (.iconst 0, 1) := by decide +kernel
theorem dX0_copyFrom_10 : decode cX0_copyFrom 10 = .ok (.bipush 16, 2) := by decide +kernel
theorem dX0_copyFrom_12 : decode cX0_copyFrom 12 = .ok (.invokestatic 37, 3) := by decide +kernel
theorem dX0_copyFrom_15 : decode cX0_copyFrom 15 = .ok (.aload_n 1, 1) := by decide +kernel
theorem dX0_copyFrom_16 : decode cX0_copyFrom 16 = .ok (.getfield 15, 3) := by decide +kernel
theorem dX0_copyFrom_19 : decode cX0_copyFrom 19 = .ok (.iconst 0, 1) := by decide +kernel
theorem dX0_copyFrom_20 : decode cX0_copyFrom 20 = .ok (.aload_n 0, 1) := by decide +kernel
theorem dX0_copyFrom_21 : decode cX0_copyFrom 21 = .ok (.getfield 15, 3) := by decide +kernel
theorem dX0_copyFrom_24 : decode cX0_copyFrom 24 = .ok (.iconst 0, 1) := by decide +kernel
theorem dX0_copyFrom_25 : decode cX0_copyFrom 25 = .ok (.bipush 16, 2) := by decide +kernel
theorem dX0_copyFrom_27 : decode cX0_copyFrom 27 = .ok (.invokestatic 37, 3) := by decide +kernel
theorem dX0_copyFrom_30 : decode cX0_copyFrom 30 = .ok (.aload_n 1, 1) := by decide +kernel
theorem dX0_copyFrom_31 : decode cX0_copyFrom 31 = .ok (.getfield 18, 3) := by decide +kernel
theorem dX0_copyFrom_34 : decode cX0_copyFrom 34 = .ok (.iconst 0, 1) := by decide +kernel
theorem dX0_copyFrom_35 : decode cX0_copyFrom 35 = .ok (.aload_n 0, 1) := by decide +kernel
theorem dX0_copyFrom_36 : decode cX0_copyFrom 36 = .ok (.getfield 18, 3) := by decide +kernel
theorem dX0_copyFrom_39 : decode cX0_copyFrom 39 = .ok (.iconst 0, 1) := by decide +kernel
theorem dX0_copyFrom_40 : decode cX0_copyFrom 40 = .ok (.bipush 16, 2) := by decide +kernel
theorem dX0_copyFrom_42 : decode cX0_copyFrom 42 = .ok (.invokestatic 37, 3) := by decide +kernel
theorem dX0_copyFrom_45 : decode cX0_copyFrom 45 = .ok (.aload_n 0, 1) := by decide +kernel
theorem dX0_copyFrom_46 : decode cX0_copyFrom 46 = .ok (.aload_n 1, 1) := by decide +kernel
theorem dX0_copyFrom_47 : decode cX0_copyFrom 47 = .ok (.getfield 21, 3) := by decide +kernel
theorem dX0_copyFrom_50 : decode cX0_copyFrom 50 = .ok (.putfield 21, 3) := by decide +kernel
theorem dX0_copyFrom_53 : decode cX0_copyFrom 53 = .ok (.aload_n 0, 1) := by decide +kernel
theorem dX0_copyFrom_54 : decode cX0_copyFrom 54 = .ok (.aload_n 1, 1) := by decide +kernel
theorem dX0_copyFrom_55 : decode cX0_copyFrom 55 = .ok (.getfield 25, 3) := by decide +kernel
theorem dX0_copyFrom_58 : decode cX0_copyFrom 58 = .ok (.putfield 25, 3) := by decide +kernel
theorem dX0_copyFrom_61 : decode cX0_copyFrom 61 = .ok (.aload_n 0, 1) := by decide +kernel
theorem dX0_copyFrom_62 : decode cX0_copyFrom 62 = .ok (.aload_n 1, 1) := by decide +kernel
theorem dX0_copyFrom_63 : decode cX0_copyFrom 63 = .ok (.getfield 28, 3) := by decide +kernel
theorem dX0_copyFrom_66 : decode cX0_copyFrom 66 = .ok (.putfield 28, 3) := by decide +kernel
theorem dX0_copyFrom_69 : decode cX0_copyFrom 69 = .ok (.return_, 1) := by decide +kernel
theorem dX0_meanStrength_0 : decode cX0_meanStrength 0 = .ok (.iconst 0, 1) := by decide +kernel
theorem dX0_meanStrength_1 : decode cX0_meanStrength 1 = .ok (.istore_n 1, 1) := by decide +kernel
theorem dX0_meanStrength_2 : decode cX0_meanStrength 2 = .ok (.iconst 0, 1) := by decide +kernel
theorem dX0_meanStrength_3 : decode cX0_meanStrength 3 = .ok (.istore_n 2, 1) := by decide +kernel
theorem dX0_meanStrength_4 : decode cX0_meanStrength 4 = .ok (.iload_n 2, 1) := by decide +kernel
theorem dX0_meanStrength_5 : decode cX0_meanStrength 5 = .ok (.aload_n 0, 1) := by decide +kernel
theorem dX0_meanStrength_6 : decode cX0_meanStrength 6 = .ok (.getfield 21, 3) := by decide +kernel
theorem dX0_meanStrength_9 : decode cX0_meanStrength 9 = .ok (.if_icmp .ge 27, 3) := by decide +kernel
theorem dX0_meanStrength_12 : decode cX0_meanStrength 12 = .ok (.aload_n 0, 1) := by decide +kernel
theorem dX0_meanStrength_13 : decode cX0_meanStrength 13 = .ok (.getfield 15, 3) := by decide +kernel
theorem dX0_meanStrength_16 : decode cX0_meanStrength 16 = .ok (.iload_n 2, 1) := by decide +kernel
theorem dX0_meanStrength_17 : decode cX0_meanStrength 17 = .ok (.iaload, 1) := by decide +kernel
theorem dX0_meanStrength_18 : decode cX0_meanStrength 18 = .ok (.ifCond .ne 12, 3) := by decide +kernel
theorem dX0_meanStrength_21 : decode cX0_meanStrength 21 = .ok (.iload_n 1, 1) := by decide +kernel
theorem dX0_meanStrength_22 : decode cX0_meanStrength 22 = .ok (.aload_n 0, 1) := by decide +kernel
theorem dX0_meanStrength_23 : decode cX0_meanStrength 23 = .ok (.getfield 9, 3) := by decide +kernel
theorem dX0_meanStrength_26 : decode cX0_meanStrength 26 = .ok (.iload_n 2, 1) := by decide +kernel
theorem dX0_meanStrength_27 : decode cX0_meanStrength 27 = .ok (.iaload, 1) := by decide +kernel
theorem dX0_meanStrength_28 : decode cX0_meanStrength 28 = .ok (.iadd, 1) := by decide +kernel
theorem dX0_meanStrength_29 : decode cX0_meanStrength 29 = .ok (.istore_n 1, 1) := by decide +kernel
theorem dX0_meanStrength_30 : decode cX0_meanStrength 30 = .ok (.iinc 2 1, 3) := by decide +kernel
theorem dX0_meanStrength_33 : decode cX0_meanStrength 33 = .ok (.goto (-29), 3) := by decide +kernel
theorem dX0_meanStrength_36 : decode cX0_meanStrength 36 = .ok (.aload_n 0, 1) := by decide +kernel
theorem dX0_meanStrength_37 : decode cX0_meanStrength 37 = .ok (.getfield 25, 3) := by decide +kernel
theorem dX0_meanStrength_40 : decode cX0_meanStrength 40 = .ok (.ifCond .le 12, 3) := by decide +kernel
theorem dX0_meanStrength_43 : decode cX0_meanStrength 43 = .ok (.iload_n 1, 1) := by decide +kernel
theorem dX0_meanStrength_44 : decode cX0_meanStrength 44 = .ok (.aload_n 0, 1) := by decide +kernel
theorem dX0_meanStrength_45 : decode cX0_meanStrength 45 = .ok (.getfield 25, 3) := by decide +kernel
theorem dX0_meanStrength_48 : decode cX0_meanStrength 48 = .ok (.idiv, 1) := by decide +kernel
theorem dX0_meanStrength_49 : decode cX0_meanStrength 49 = .ok (.goto 4, 3) := by decide +kernel
theorem dX0_meanStrength_52 : decode cX0_meanStrength 52 = .ok (.iconst 0, 1) := by decide +kernel
theorem dX0_meanStrength_53 : decode cX0_meanStrength 53 = .ok (.ireturn, 1) := by decide +kernel
theorem dX0_leastStrength_0 : decode cX0_leastStrength 0 = .ok (.iconst (-1), 1) := by decide +kernel
theorem dX0_leastStrength_1 : decode cX0_leastStrength 1 = .ok (.istore_n 1, 1) := by decide +kernel
theorem dX0_leastStrength_2 : decode cX0_leastStrength 2 = .ok (.iconst 0, 1) := by decide +kernel
theorem dX0_leastStrength_3 : decode cX0_leastStrength 3 = .ok (.istore_n 2, 1) := by decide +kernel
theorem dX0_leastStrength_4 : decode cX0_leastStrength 4 = .ok (.iload_n 2, 1) := by decide +kernel
theorem dX0_leastStrength_5 : decode cX0_leastStrength 5 = .ok (.aload_n 0, 1) := by decide +kernel
theorem dX0_leastStrength_6 : decode cX0_leastStrength 6 = .ok (.getfield 21, 3) := by decide +kernel
theorem dX0_leastStrength_9 : decode cX0_leastStrength 9 = .ok (.if_icmp .ge 40, 3) := by decide +kernel
theorem dX0_leastStrength_12 : decode cX0_leastStrength 12 = .ok (.aload_n 0, 1) := by decide +kernel
theorem dX0_leastStrength_13 : decode cX0_leastStrength 13 = .ok (.getfield 15, 3) := by decide +kernel
theorem dX0_leastStrength_16 : decode cX0_leastStrength 16 = .ok (.iload_n 2, 1) := by decide +kernel
theorem dX0_leastStrength_17 : decode cX0_leastStrength 17 = .ok (.iaload, 1) := by decide +kernel
theorem dX0_leastStrength_18 : decode cX0_leastStrength 18 = .ok (.ifCond .ne 25, 3) := by decide +kernel
theorem dX0_leastStrength_21 : decode cX0_leastStrength 21 = .ok (.iload_n 1, 1) := by decide +kernel
theorem dX0_leastStrength_22 : decode cX0_leastStrength 22 = .ok (.iconst (-1), 1) := by decide +kernel
theorem dX0_leastStrength_23 : decode cX0_leastStrength 23 = .ok (.if_icmp .eq 13, 3) := by decide +kernel
theorem dX0_leastStrength_26 : decode cX0_leastStrength 26 = .ok (.aload_n 0, 1) := by decide +kernel
theorem dX0_leastStrength_27 : decode cX0_leastStrength 27 = .ok (.getfield 9, 3) := by decide +kernel
theorem dX0_leastStrength_30 : decode cX0_leastStrength 30 = .ok (.iload_n 2, 1) := by decide +kernel
theorem dX0_leastStrength_31 : decode cX0_leastStrength 31 = .ok (.iaload, 1) := by decide +kernel
theorem dX0_leastStrength_32 : decode cX0_leastStrength 32 = .ok (.iload_n 1, 1) := by decide +kernel
theorem dX0_leastStrength_33 : decode cX0_leastStrength 33 = .ok (.if_icmp .ge 10, 3) := by decide +kernel
theorem dX0_leastStrength_36 : decode cX0_leastStrength 36 = .ok (.aload_n 0, 1) := by decide +kernel
theorem dX0_leastStrength_37 : decode cX0_leastStrength 37 = .ok (.getfield 9, 3) := by decide +kernel
theorem dX0_leastStrength_40 : decode cX0_leastStrength 40 = .ok (.iload_n 2, 1) := by decide +kernel
theorem dX0_leastStrength_41 : decode cX0_leastStrength 41 = .ok (.iaload, 1) := by decide +kernel
theorem dX0_leastStrength_42 : decode cX0_leastStrength 42 = .ok (.istore_n 1, 1) := by decide +kernel
theorem dX0_leastStrength_43 : decode cX0_leastStrength 43 = .ok (.iinc 2 1, 3) := by decide +kernel
theorem dX0_leastStrength_46 : decode cX0_leastStrength 46 = .ok (.goto (-42), 3) := by decide +kernel
theorem dX0_leastStrength_49 : decode cX0_leastStrength 49 = .ok (.iconst 0, 1) := by decide +kernel
theorem dX0_leastStrength_50 : decode cX0_leastStrength 50 = .ok (.iload_n 1, 1) := by decide +kernel
theorem dX0_leastStrength_51 : decode cX0_leastStrength 51 = .ok (.invokestatic 43, 3) := by decide +kernel
theorem dX0_leastStrength_54 : decode cX0_leastStrength 54 = .ok (.ireturn, 1) := by decide +kernel
theorem dX0_weakest_0 : decode cX0_weakest 0 = .ok (.iconst (-1), 1) := by decide +kernel
theorem dX0_weakest_1 : decode cX0_weakest 1 = .ok (.istore_n 1, 1) := by decide +kernel
theorem dX0_weakest_2 : decode cX0_weakest 2 = .ok (.iconst 0, 1) := by decide +kernel
theorem dX0_weakest_3 : decode cX0_weakest 3 = .ok (.istore_n 2, 1) := by decide +kernel
theorem dX0_weakest_4 : decode cX0_weakest 4 = .ok (.iload_n 2, 1) := by decide +kernel
theorem dX0_weakest_5 : decode cX0_weakest 5 = .ok (.aload_n 0, 1) := by decide +kernel
theorem dX0_weakest_6 : decode cX0_weakest 6 = .ok (.getfield 21, 3) := by decide +kernel
theorem dX0_weakest_9 : decode cX0_weakest 9 = .ok (.if_icmp .ge 40, 3) := by decide +kernel
theorem dX0_weakest_12 : decode cX0_weakest 12 = .ok (.aload_n 0, 1) := by decide +kernel
theorem dX0_weakest_13 : decode cX0_weakest 13 = .ok (.getfield 15, 3) := by decide +kernel
theorem dX0_weakest_16 : decode cX0_weakest 16 = .ok (.iload_n 2, 1) := by decide +kernel
theorem dX0_weakest_17 : decode cX0_weakest 17 = .ok (.iaload, 1) := by decide +kernel
theorem dX0_weakest_18 : decode cX0_weakest 18 = .ok (.ifCond .ne 25, 3) := by decide +kernel
theorem dX0_weakest_21 : decode cX0_weakest 21 = .ok (.iload_n 1, 1) := by decide +kernel
theorem dX0_weakest_22 : decode cX0_weakest 22 = .ok (.iconst (-1), 1) := by decide +kernel
theorem dX0_weakest_23 : decode cX0_weakest 23 = .ok (.if_icmp .eq 18, 3) := by decide +kernel
theorem dX0_weakest_26 : decode cX0_weakest 26 = .ok (.aload_n 0, 1) := by decide +kernel
theorem dX0_weakest_27 : decode cX0_weakest 27 = .ok (.getfield 9, 3) := by decide +kernel
theorem dX0_weakest_30 : decode cX0_weakest 30 = .ok (.iload_n 2, 1) := by decide +kernel
theorem dX0_weakest_31 : decode cX0_weakest 31 = .ok (.iaload, 1) := by decide +kernel
theorem dX0_weakest_32 : decode cX0_weakest 32 = .ok (.aload_n 0, 1) := by decide +kernel
theorem dX0_weakest_33 : decode cX0_weakest 33 = .ok (.getfield 9, 3) := by decide +kernel
theorem dX0_weakest_36 : decode cX0_weakest 36 = .ok (.iload_n 1, 1) := by decide +kernel
theorem dX0_weakest_37 : decode cX0_weakest 37 = .ok (.iaload, 1) := by decide +kernel
theorem dX0_weakest_38 : decode cX0_weakest 38 = .ok (.if_icmp .ge 5, 3) := by decide +kernel
theorem dX0_weakest_41 : decode cX0_weakest 41 = .ok (.iload_n 2, 1) := by decide +kernel
theorem dX0_weakest_42 : decode cX0_weakest 42 = .ok (.istore_n 1, 1) := by decide +kernel
theorem dX0_weakest_43 : decode cX0_weakest 43 = .ok (.iinc 2 1, 3) := by decide +kernel
theorem dX0_weakest_46 : decode cX0_weakest 46 = .ok (.goto (-42), 3) := by decide +kernel
theorem dX0_weakest_49 : decode cX0_weakest 49 = .ok (.iload_n 1, 1) := by decide +kernel
theorem dX0_weakest_50 : decode cX0_weakest 50 = .ok (.ireturn, 1) := by decide +kernel
theorem dX0_gain_0 : decode cX0_gain 0 = .ok (.iconst 0, 1) := by decide +kernel
theorem dX0_gain_1 : decode cX0_gain 1 = .ok (.istore_n 2, 1) := by decide +kernel
theorem dX0_gain_2 : decode cX0_gain 2 = .ok (.iload_n 2, 1) := by decide +kernel
theorem dX0_gain_3 : decode cX0_gain 3 = .ok (.aload_n 0, 1) := by decide +kernel
theorem dX0_gain_4 : decode cX0_gain 4 = .ok (.getfield 21, 3) := by decide +kernel
theorem dX0_gain_7 : decode cX0_gain 7 = .ok (.if_icmp .ge 38, 3) := by decide +kernel
theorem dX0_gain_10 : decode cX0_gain 10 = .ok (.aload_n 0, 1) := by decide +kernel
theorem dX0_gain_11 : decode cX0_gain 11 = .ok (.getfield 15, 3) := by decide +kernel
theorem dX0_gain_14 : decode cX0_gain 14 = .ok (.iload_n 2, 1) := by decide +kernel
theorem dX0_gain_15 : decode cX0_gain 15 = .ok (.iaload, 1) := by decide +kernel
theorem dX0_gain_16 : decode cX0_gain 16 = .ok (.ifCond .ne 23, 3) := by decide +kernel
theorem dX0_gain_19 : decode cX0_gain 19 = .ok (.aload_n 0, 1) := by decide +kernel
theorem dX0_gain_20 : decode cX0_gain 20 = .ok (.getfield 9, 3) := by decide +kernel
theorem dX0_gain_23 : decode cX0_gain 23 = .ok (.iload_n 2, 1) := by decide +kernel
theorem dX0_gain_24 : decode cX0_gain 24 = .ok (.sipush 1000, 3) := by decide +kernel
theorem dX0_gain_27 : decode cX0_gain 27 = .ok (.aload_n 0, 1) := by decide +kernel
theorem dX0_gain_28 : decode cX0_gain 28 = .ok (.getfield 9, 3) := by decide +kernel
theorem dX0_gain_31 : decode cX0_gain 31 = .ok (.iload_n 2, 1) := by decide +kernel
theorem dX0_gain_32 : decode cX0_gain 32 = .ok (.iaload, 1) := by decide +kernel
theorem dX0_gain_33 : decode cX0_gain 33 = .ok (.iload_n 1, 1) := by decide +kernel
theorem dX0_gain_34 : decode cX0_gain 34 = .ok (.iadd, 1) := by decide +kernel
theorem dX0_gain_35 : decode cX0_gain 35 = .ok (.invokestatic 31, 3) := by decide +kernel
theorem dX0_gain_38 : decode cX0_gain 38 = .ok (.iastore, 1) := by decide +kernel
theorem dX0_gain_39 : decode cX0_gain 39 = .ok (.iinc 2 1, 3) := by decide +kernel
theorem dX0_gain_42 : decode cX0_gain 42 = .ok (.goto (-40), 3) := by decide +kernel
theorem dX0_gain_45 : decode cX0_gain 45 = .ok (.return_, 1) := by decide +kernel
theorem dX0_lose_0 : decode cX0_lose 0 = .ok (.iconst 0, 1) := by decide +kernel
theorem dX0_lose_1 : decode cX0_lose 1 = .ok (.istore_n 2, 1) := by decide +kernel
theorem dX0_lose_2 : decode cX0_lose 2 = .ok (.iload_n 2, 1) := by decide +kernel
theorem dX0_lose_3 : decode cX0_lose 3 = .ok (.aload_n 0, 1) := by decide +kernel
theorem dX0_lose_4 : decode cX0_lose 4 = .ok (.getfield 21, 3) := by decide +kernel
theorem dX0_lose_7 : decode cX0_lose 7 = .ok (.if_icmp .ge 72, 3) := by decide +kernel
theorem dX0_lose_10 : decode cX0_lose 10 = .ok (.aload_n 0, 1) := by decide +kernel
theorem dX0_lose_11 : decode cX0_lose 11 = .ok (.getfield 15, 3) := by decide +kernel
theorem dX0_lose_14 : decode cX0_lose 14 = .ok (.iload_n 2, 1) := by decide +kernel
theorem dX0_lose_15 : decode cX0_lose 15 = .ok (.iaload, 1) := by decide +kernel
theorem dX0_lose_16 : decode cX0_lose 16 = .ok (.ifCond .ne 57, 3) := by decide +kernel
theorem dX0_lose_19 : decode cX0_lose 19 = .ok (.aload_n 0, 1) := by decide +kernel
theorem dX0_lose_20 : decode cX0_lose 20 = .ok (.getfield 9, 3) := by decide +kernel
theorem dX0_lose_23 : decode cX0_lose 23 = .ok (.iload_n 2, 1) := by decide +kernel
theorem dX0_lose_24 : decode cX0_lose 24 = .ok (.iconst 0, 1) := by decide +kernel
theorem dX0_lose_25 : decode cX0_lose 25 = .ok (.aload_n 0, 1) := by decide +kernel
theorem dX0_lose_26 : decode cX0_lose 26 = .ok (.getfield 9, 3) := by decide +kernel
theorem dX0_lose_29 : decode cX0_lose 29 = .ok (.iload_n 2, 1) := by decide +kernel
theorem dX0_lose_30 : decode cX0_lose 30 = .ok (.iaload, 1) := by decide +kernel
theorem dX0_lose_31 : decode cX0_lose 31 = .ok (.iload_n 1, 1) := by decide +kernel
theorem dX0_lose_32 : decode cX0_lose 32 = .ok (.isub, 1) := by decide +kernel
theorem dX0_lose_33 : decode cX0_lose 33 = .ok (.invokestatic 43, 3) := by decide +kernel
theorem dX0_lose_36 : decode cX0_lose 36 = .ok (.iastore, 1) := by decide +kernel
theorem dX0_lose_37 : decode cX0_lose 37 = .ok (.aload_n 0, 1) := by decide +kernel
theorem dX0_lose_38 : decode cX0_lose 38 = .ok (.getfield 9, 3) := by decide +kernel
theorem dX0_lose_41 : decode cX0_lose 41 = .ok (.iload_n 2, 1) := by decide +kernel
theorem dX0_lose_42 : decode cX0_lose 42 = .ok (.iaload, 1) := by decide +kernel
theorem dX0_lose_43 : decode cX0_lose 43 = .ok (.ifCond .ne 30, 3) := by decide +kernel
theorem dX0_lose_46 : decode cX0_lose 46 = .ok (.aload_n 0, 1) := by decide +kernel
theorem dX0_lose_47 : decode cX0_lose 47 = .ok (.getfield 15, 3) := by decide +kernel
theorem dX0_lose_50 : decode cX0_lose 50 = .ok (.iload_n 2, 1) := by decide +kernel
theorem dX0_lose_51 : decode cX0_lose 51 = .ok (.iconst 1, 1) := by decide +kernel
theorem dX0_lose_52 : decode cX0_lose 52 = .ok (.iastore, 1) := by decide +kernel
theorem dX0_lose_53 : decode cX0_lose 53 = .ok (.aload_n 0, 1) := by decide +kernel
theorem dX0_lose_54 : decode cX0_lose 54 = .ok (.dup, 1) := by decide +kernel
theorem dX0_lose_55 : decode cX0_lose 55 = .ok (.getfield 25, 3) := by decide +kernel
theorem dX0_lose_58 : decode cX0_lose 58 = .ok (.iconst 1, 1) := by decide +kernel
theorem dX0_lose_59 : decode cX0_lose 59 = .ok (.isub, 1) := by decide +kernel
theorem dX0_lose_60 : decode cX0_lose 60 = .ok (.putfield 25, 3) := by decide +kernel
theorem dX0_lose_63 : decode cX0_lose 63 = .ok (.aload_n 0, 1) := by decide +kernel
theorem dX0_lose_64 : decode cX0_lose 64 = .ok (.dup, 1) := by decide +kernel
theorem dX0_lose_65 : decode cX0_lose 65 = .ok (.getfield 28, 3) := by decide +kernel
theorem dX0_lose_68 : decode cX0_lose 68 = .ok (.iconst 1, 1) := by decide +kernel
theorem dX0_lose_69 : decode cX0_lose 69 = .ok (.iadd, 1) := by decide +kernel
theorem dX0_lose_70 : decode cX0_lose 70 = .ok (.putfield 28, 3) := by decide +kernel
theorem dX0_lose_73 : decode cX0_lose 73 = .ok (.iinc 2 1, 3) := by decide +kernel
theorem dX0_lose_76 : decode cX0_lose 76 = .ok (.goto (-74), 3) := by decide +kernel
theorem dX0_lose_79 : decode cX0_lose 79 = .ok (.return_, 1) := by decide +kernel
theorem dX0_leaveWeakest_0 : decode cX0_leaveWeakest 0 = .ok (.aload_n 0, 1) := by decide +kernel
theorem dX0_leaveWeakest_1 : decode cX0_leaveWeakest 1 = .ok (.invokevirtual 46, 3) := by decide +kernel
theorem dX0_leaveWeakest_4 : decode cX0_leaveWeakest 4 = .ok (.istore_n 2, 1) := by decide +kernel
theorem dX0_leaveWeakest_5 : decode cX0_leaveWeakest 5 = .ok (.iload_n 2, 1) := by decide +kernel
theorem dX0_leaveWeakest_6 : decode cX0_leaveWeakest 6 = .ok (.iconst (-1), 1) := by decide +kernel
theorem dX0_leaveWeakest_7 : decode cX0_leaveWeakest 7 = .ok (.if_icmp .eq 27, 3) := by decide +kernel
theorem dX0_leaveWeakest_10 : decode cX0_leaveWeakest 10 = .ok (.aload_n 0, 1) := by decide +kernel
theorem dX0_leaveWeakest_11 : decode cX0_leaveWeakest 11 = .ok (.getfield 15, 3) := by decide +kernel
theorem dX0_leaveWeakest_14 : decode cX0_leaveWeakest 14 = .ok (.iload_n 2, 1) := by decide +kernel
theorem dX0_leaveWeakest_15 : decode cX0_leaveWeakest 15 = .ok (.iconst 2, 1) := by decide +kernel
theorem dX0_leaveWeakest_16 : decode cX0_leaveWeakest 16 = .ok (.iastore, 1) := by decide +kernel
theorem dX0_leaveWeakest_17 : decode cX0_leaveWeakest 17 = .ok (.aload_n 0, 1) := by decide +kernel
theorem dX0_leaveWeakest_18 : decode cX0_leaveWeakest 18 = .ok (.getfield 18, 3) := by decide +kernel
theorem dX0_leaveWeakest_21 : decode cX0_leaveWeakest 21 = .ok (.iload_n 2, 1) := by decide +kernel
theorem dX0_leaveWeakest_22 : decode cX0_leaveWeakest 22 = .ok (.iload_n 1, 1) := by decide +kernel
theorem dX0_leaveWeakest_23 : decode cX0_leaveWeakest 23 = .ok (.iastore, 1) := by decide +kernel
theorem dX0_leaveWeakest_24 : decode cX0_leaveWeakest 24 = .ok (.aload_n 0, 1) := by decide +kernel
theorem dX0_leaveWeakest_25 : decode cX0_leaveWeakest 25 = .ok (.dup, 1) := by decide +kernel
theorem dX0_leaveWeakest_26 : decode cX0_leaveWeakest 26 = .ok (.getfield 25, 3) := by decide +kernel
theorem dX0_leaveWeakest_29 : decode cX0_leaveWeakest 29 = .ok (.iconst 1, 1) := by decide +kernel
theorem dX0_leaveWeakest_30 : decode cX0_leaveWeakest 30 = .ok (.isub, 1) := by decide +kernel
theorem dX0_leaveWeakest_31 : decode cX0_leaveWeakest 31 = .ok (.putfield 25, 3) := by decide +kernel
theorem dX0_leaveWeakest_34 : decode cX0_leaveWeakest 34 = .ok (.return_, 1) := by decide +kernel
theorem dX0_leaveCarried_0 : decode cX0_leaveCarried 0 = .ok (.iconst 0, 1) := by decide +kernel
theorem dX0_leaveCarried_1 : decode cX0_leaveCarried 1 = .ok (.istore_n 2, 1) := by decide +kernel
theorem dX0_leaveCarried_2 : decode cX0_leaveCarried 2 = .ok (.iload_n 2, 1) := by decide +kernel
theorem dX0_leaveCarried_3 : decode cX0_leaveCarried 3 = .ok (.aload_n 0, 1) := by decide +kernel
theorem dX0_leaveCarried_4 : decode cX0_leaveCarried 4 = .ok (.getfield 21, 3) := by decide +kernel
theorem dX0_leaveCarried_7 : decode cX0_leaveCarried 7 = .ok (.if_icmp .ge 50, 3) := by decide +kernel
theorem dX0_leaveCarried_10 : decode cX0_leaveCarried 10 = .ok (.aload_n 0, 1) := by decide +kernel
theorem dX0_leaveCarried_11 : decode cX0_leaveCarried 11 = .ok (.getfield 28, 3) := by decide +kernel
theorem dX0_leaveCarried_14 : decode cX0_leaveCarried 14 = .ok (.ifCond .le 43, 3) := by decide +kernel
theorem dX0_leaveCarried_17 : decode cX0_leaveCarried 17 = .ok (.aload_n 0, 1) := by decide +kernel
theorem dX0_leaveCarried_18 : decode cX0_leaveCarried 18 = .ok (.getfield 15, 3) := by decide +kernel
theorem dX0_leaveCarried_21 : decode cX0_leaveCarried 21 = .ok (.iload_n 2, 1) := by decide +kernel
theorem dX0_leaveCarried_22 : decode cX0_leaveCarried 22 = .ok (.iaload, 1) := by decide +kernel
theorem dX0_leaveCarried_23 : decode cX0_leaveCarried 23 = .ok (.iconst 1, 1) := by decide +kernel
theorem dX0_leaveCarried_24 : decode cX0_leaveCarried 24 = .ok (.if_icmp .ne 27, 3) := by decide +kernel
theorem dX0_leaveCarried_27 : decode cX0_leaveCarried 27 = .ok (.aload_n 0, 1) := by decide +kernel
theorem dX0_leaveCarried_28 : decode cX0_leaveCarried 28 = .ok (.getfield 15, 3) := by decide +kernel
theorem dX0_leaveCarried_31 : decode cX0_leaveCarried 31 = .ok (.iload_n 2, 1) := by decide +kernel
theorem dX0_leaveCarried_32 : decode cX0_leaveCarried 32 = .ok (.iconst 2, 1) := by decide +kernel
theorem dX0_leaveCarried_33 : decode cX0_leaveCarried 33 = .ok (.iastore, 1) := by decide +kernel
theorem dX0_leaveCarried_34 : decode cX0_leaveCarried 34 = .ok (.aload_n 0, 1) := by decide +kernel
theorem dX0_leaveCarried_35 : decode cX0_leaveCarried 35 = .ok (.getfield 18, 3) := by decide +kernel
theorem dX0_leaveCarried_38 : decode cX0_leaveCarried 38 = .ok (.iload_n 2, 1) := by decide +kernel
theorem dX0_leaveCarried_39 : decode cX0_leaveCarried 39 = .ok (.iload_n 1, 1) := by decide +kernel
theorem dX0_leaveCarried_40 : decode cX0_leaveCarried 40 = .ok (.iastore, 1) := by decide +kernel
theorem dX0_leaveCarried_41 : decode cX0_leaveCarried 41 = .ok (.aload_n 0, 1) := by decide +kernel
theorem dX0_leaveCarried_42 : decode cX0_leaveCarried 42 = .ok (.dup, 1) := by decide +kernel
theorem dX0_leaveCarried_43 : decode cX0_leaveCarried 43 = .ok (.getfield 28, 3) := by decide +kernel
theorem dX0_leaveCarried_46 : decode cX0_leaveCarried 46 = .ok (.iconst 1, 1) := by decide +kernel
theorem dX0_leaveCarried_47 : decode cX0_leaveCarried 47 = .ok (.isub, 1) := by decide +kernel
theorem dX0_leaveCarried_48 : decode cX0_leaveCarried 48 = .ok (.putfield 28, 3) := by decide +kernel
theorem dX0_leaveCarried_51 : decode cX0_leaveCarried 51 = .ok (.iinc 2 1, 3) := by decide +kernel
theorem dX0_leaveCarried_54 : decode cX0_leaveCarried 54 = .ok (.goto (-52), 3) := by decide +kernel
theorem dX0_leaveCarried_57 : decode cX0_leaveCarried 57 = .ok (.return_, 1) := by decide +kernel
theorem dX1_init_0 : decode cX1_init 0 = .ok (.aload_n 0, 1) := by decide +kernel
theorem dX1_init_1 : decode cX1_init 1 = .ok (.invokespecial 3, 3) := by decide +kernel
theorem dX1_init_4 : decode cX1_init 4 = .ok (.aload_n 0, 1) := by decide +kernel
theorem dX1_init_5 : decode cX1_init 5 = .ok (.iconst 4, 1) := by decide +kernel
theorem dX1_init_6 : decode cX1_init 6 = .ok (.newarray .int, 2) := by decide +kernel
theorem dX1_init_8 : decode cX1_init 8 = .ok (.putfield 9, 3) := by decide +kernel
theorem dX1_init_11 : decode cX1_init 11 = .ok (.aload_n 0, 1) := by decide +kernel
theorem dX1_init_12 : decode cX1_init 12 = .ok (.iconst 4, 1) := by decide +kernel
theorem dX1_init_13 : decode cX1_init 13 = .ok (.newarray .int, 2) := by decide +kernel
theorem dX1_init_15 : decode cX1_init 15 = .ok (.putfield 15, 3) := by decide +kernel
theorem dX1_init_18 : decode cX1_init 18 = .ok (.aload_n 0, 1) := by decide +kernel
theorem dX1_init_19 : decode cX1_init 19 = .ok (.iconst 0, 1) := by decide +kernel
theorem dX1_init_20 : decode cX1_init 20 = .ok (.putfield 18, 3) := by decide +kernel
theorem dX1_init_23 : decode cX1_init 23 = .ok (.return_, 1) := by decide +kernel
theorem dX1_add_0 : decode cX1_add 0 = .ok (.aload_n 0, 1) := by decide +kernel
theorem dX1_add_1 : decode cX1_add 1 = .ok (.getfield 18, 3) := by decide +kernel
theorem dX1_add_4 : decode cX1_add 4 = .ok (.iconst 4, 1) := by decide +kernel
theorem dX1_add_5 : decode cX1_add 5 = .ok (.if_icmp .ge 33, 3) := by decide +kernel
theorem dX1_add_8 : decode cX1_add 8 = .ok (.aload_n 0, 1) := by decide +kernel
theorem dX1_add_9 : decode cX1_add 9 = .ok (.getfield 9, 3) := by decide +kernel
theorem dX1_add_12 : decode cX1_add 12 = .ok (.aload_n 0, 1) := by decide +kernel
theorem dX1_add_13 : decode cX1_add 13 = .ok (.getfield 18, 3) := by decide +kernel
theorem dX1_add_16 : decode cX1_add 16 = .ok (.iload_n 1, 1) := by decide +kernel
theorem dX1_add_17 : decode cX1_add 17 = .ok (.iastore, 1) := by decide +kernel
theorem dX1_add_18 : decode cX1_add 18 = .ok (.aload_n 0, 1) := by decide +kernel
theorem dX1_add_19 : decode cX1_add 19 = .ok (.getfield 15, 3) := by decide +kernel
theorem dX1_add_22 : decode cX1_add 22 = .ok (.aload_n 0, 1) := by decide +kernel
theorem dX1_add_23 : decode cX1_add 23 = .ok (.getfield 18, 3) := by decide +kernel
theorem dX1_add_26 : decode cX1_add 26 = .ok (.iload_n 2, 1) := by decide +kernel
theorem dX1_add_27 : decode cX1_add 27 = .ok (.iastore, 1) := by decide +kernel
theorem dX1_add_28 : decode cX1_add 28 = .ok (.aload_n 0, 1) := by decide +kernel
theorem dX1_add_29 : decode cX1_add 29 = .ok (.dup, 1) := by decide +kernel
theorem dX1_add_30 : decode cX1_add 30 = .ok (.getfield 18, 3) := by decide +kernel
theorem dX1_add_33 : decode cX1_add 33 = .ok (.iconst 1, 1) := by decide +kernel
theorem dX1_add_34 : decode cX1_add 34 = .ok (.iadd, 1) := by decide +kernel
theorem dX1_add_35 : decode cX1_add 35 = .ok (.putfield 18, 3) := by decide +kernel
theorem dX1_add_38 : decode cX1_add 38 = .ok (.return_, 1) := by decide +kernel
theorem dX1_hide_0 : decode cX1_hide 0 = .ok (.iconst 0, 1) := by decide +kernel
theorem dX1_hide_1 : decode cX1_hide 1 = .ok (.istore_n 2, 1) := by decide +kernel
theorem dX1_hide_2 : decode cX1_hide 2 = .ok (.iload_n 2, 1) := by decide +kernel
theorem dX1_hide_3 : decode cX1_hide 3 = .ok (.aload_n 0, 1) := by decide +kernel
theorem dX1_hide_4 : decode cX1_hide 4 = .ok (.getfield 18, 3) := by decide +kernel
theorem dX1_hide_7 : decode cX1_hide 7 = .ok (.if_icmp .ge 31, 3) := by decide +kernel
theorem dX1_hide_10 : decode cX1_hide 10 = .ok (.iload_n 1, 1) := by decide +kernel
theorem dX1_hide_11 : decode cX1_hide 11 = .ok (.aload_n 0, 1) := by decide +kernel
theorem dX1_hide_12 : decode cX1_hide 12 = .ok (.getfield 9, 3) := by decide +kernel
theorem dX1_hide_15 : decode cX1_hide 15 = .ok (.iload_n 2, 1) := by decide +kernel
theorem dX1_hide_16 : decode cX1_hide 16 = .ok (.iaload, 1) := by decide +kernel
theorem dX1_hide_17 : decode cX1_hide 17 = .ok (.if_icmp .lt 15, 3) := by decide +kernel
theorem dX1_hide_20 : decode cX1_hide 20 = .ok (.iload_n 1, 1) := by decide +kernel
theorem dX1_hide_21 : decode cX1_hide 21 = .ok (.aload_n 0, 1) := by decide +kernel
theorem dX1_hide_22 : decode cX1_hide 22 = .ok (.getfield 15, 3) := by decide +kernel
theorem dX1_hide_25 : decode cX1_hide 25 = .ok (.iload_n 2, 1) := by decide +kernel
theorem dX1_hide_26 : decode cX1_hide 26 = .ok (.iaload, 1) := by decide +kernel
theorem dX1_hide_27 : decode cX1_hide 27 = .ok (.if_icmp .gt 5, 3) := by decide +kernel
theorem dX1_hide_30 : decode cX1_hide 30 = .ok (.iconst 1, 1) := by decide +kernel
theorem dX1_hide_31 : decode cX1_hide 31 = .ok (.ireturn, 1) := by decide +kernel
theorem dX1_hide_32 : decode cX1_hide 32 = .ok (.iinc 2 1, 3) := by decide +kernel
theorem dX1_hide_35 : decode cX1_hide 35 = .ok (.goto (-33), 3) := by decide +kernel
theorem dX1_hide_38 : decode cX1_hide 38 = .ok (.iconst 0, 1) := by decide +kernel
theorem dX1_hide_39 : decode cX1_hide 39 = .ok (.ireturn, 1) := by decide +kernel
theorem dX1_copyFrom_0 : decode cX1_copyFrom 0 = .ok (.aload_n 1, 1) := by decide +kernel
theorem dX1_copyFrom_1 : decode cX1_copyFrom 1 = .ok (.getfield 9, 3) := by decide +kernel
theorem dX1_copyFrom_4 : decode cX1_copyFrom 4 = .ok (.iconst 0, 1) := by decide +kernel
theorem dX1_copyFrom_5 : decode cX1_copyFrom 5 = .ok (.aload_n 0, 1) := by decide +kernel
theorem dX1_copyFrom_6 : decode cX1_copyFrom 6 = .ok (.getfield 9, 3) := by decide +kernel
theorem dX1_copyFrom_9 : decode cX1_copyFrom 9 = .ok (.iconst 0, 1) := by decide +kernel
theorem dX1_copyFrom_10 : decode cX1_copyFrom 10 = .ok (.iconst 4, 1) := by decide +kernel
theorem dX1_copyFrom_11 : decode cX1_copyFrom 11 = .ok (.invokestatic 22, 3) := by decide +kernel
theorem dX1_copyFrom_14 : decode cX1_copyFrom 14 = .ok (.aload_n 1, 1) := by decide +kernel
theorem dX1_copyFrom_15 : decode cX1_copyFrom 15 = .ok (.getfield 15, 3) := by decide +kernel
theorem dX1_copyFrom_18 : decode cX1_copyFrom 18 = .ok (.iconst 0, 1) := by decide +kernel
theorem dX1_copyFrom_19 : decode cX1_copyFrom 19 = .ok (.aload_n 0, 1) := by decide +kernel
theorem dX1_copyFrom_20 : decode cX1_copyFrom 20 = .ok (.getfield 15, 3) := by decide +kernel
theorem dX1_copyFrom_23 : decode cX1_copyFrom 23 = .ok (.iconst 0, 1) := by decide +kernel
theorem dX1_copyFrom_24 : decode cX1_copyFrom 24 = .ok (.iconst 4, 1) := by decide +kernel
theorem dX1_copyFrom_25 : decode cX1_copyFrom 25 = .ok (.invokestatic 22, 3) := by decide +kernel
theorem dX1_copyFrom_28 : decode cX1_copyFrom 28 = .ok (.aload_n 0, 1) := by decide +kernel
theorem dX1_copyFrom_29 : decode cX1_copyFrom 29 = .ok (.aload_n 1, 1) := by decide +kernel
theorem dX1_copyFrom_30 : decode cX1_copyFrom 30 = .ok (.getfield 18, 3) := by decide +kernel
theorem dX1_copyFrom_33 : decode cX1_copyFrom 33 = .ok (.putfield 18, 3) := by decide +kernel
theorem dX1_copyFrom_36 : decode cX1_copyFrom 36 = .ok (.return_, 1) := by decide +kernel
theorem dX2_init_0 : decode cX2_init 0 = .ok (.aload_n 0, 1) := by decide +kernel
theorem dX2_init_1 : decode cX2_init 1 = .ok (.invokespecial 3, 3) := by decide +kernel
theorem dX2_init_4 : decode cX2_init 4 = .ok (.aload_n 0, 1) := by decide +kernel
theorem dX2_init_5 : decode cX2_init 5 = .ok (.bipush 10, 2) := by decide +kernel
theorem dX2_init_7 : decode cX2_init 7 = .ok (.newarray .int, 2) := by decide +kernel
theorem dX2_init_9 : decode cX2_init 9 = .ok (.putfield 9, 3) := by decide +kernel
theorem dX2_init_12 : decode cX2_init 12 = .ok (.aload_n 0, 1) := by decide +kernel
theorem dX2_init_13 : decode cX2_init 13 = .ok (.bipush 10, 2) := by decide +kernel
theorem dX2_init_15 : decode cX2_init 15 = .ok (.newarray .int, 2) := by decide +kernel
theorem dX2_init_17 : decode cX2_init 17 = .ok (.putfield 15, 3) := by decide +kernel
theorem dX2_init_20 : decode cX2_init 20 = .ok (.aload_n 0, 1) := by decide +kernel
theorem dX2_init_21 : decode cX2_init 21 = .ok (.bipush 10, 2) := by decide +kernel
theorem dX2_init_23 : decode cX2_init 23 = .ok (.newarray .int, 2) := by decide +kernel
theorem dX2_init_25 : decode cX2_init 25 = .ok (.putfield 18, 3) := by decide +kernel
theorem dX2_init_28 : decode cX2_init 28 = .ok (.aload_n 0, 1) := by decide +kernel
theorem dX2_init_29 : decode cX2_init 29 = .ok (.bipush 10, 2) := by decide +kernel
theorem dX2_init_31 : decode cX2_init 31 = .ok (.newarray .int, 2) := by decide +kernel
theorem dX2_init_33 : decode cX2_init 33 = .ok (.putfield 21, 3) := by decide +kernel
theorem dX2_init_36 : decode cX2_init 36 = .ok (.aload_n 0, 1) := by decide +kernel
theorem dX2_init_37 : decode cX2_init 37 = .ok (.iconst 0, 1) := by decide +kernel
theorem dX2_init_38 : decode cX2_init 38 = .ok (.putfield 24, 3) := by decide +kernel
theorem dX2_init_41 : decode cX2_init 41 = .ok (.return_, 1) := by decide +kernel
theorem dX2_readFrom_0 : decode cX2_readFrom 0 = .ok (.aload_n 0, 1) := by decide +kernel
theorem dX2_readFrom_1 : decode cX2_readFrom 1 = .ok (.getfield 24, 3) := by decide +kernel
theorem dX2_readFrom_4 : decode cX2_readFrom 4 = .ok (.istore_n 2, 1) := by decide +kernel
theorem dX2_readFrom_5 : decode cX2_readFrom 5 = .ok (.iload_n 2, 1) := by decide +kernel
theorem dX2_readFrom_6 : decode cX2_readFrom 6 = .ok (.bipush 10, 2) := by decide +kernel
theorem dX2_readFrom_8 : decode cX2_readFrom 8 = .ok (.if_icmp .gt 45, 3) := by decide +kernel
theorem dX2_readFrom_11 : decode cX2_readFrom 11 = .ok (.aload_n 0, 1) := by decide +kernel
theorem dX2_readFrom_12 : decode cX2_readFrom 12 = .ok (.aload_n 1, 1) := by decide +kernel
theorem dX2_readFrom_13 : decode cX2_readFrom 13 = .ok (.iload_n 2, 1) := by decide +kernel
theorem dX2_readFrom_14 : decode cX2_readFrom 14 = .ok (.invokevirtual 28, 3) := by decide +kernel
theorem dX2_readFrom_17 : decode cX2_readFrom 17 = .ok (.ifCond .ne 5, 3) := by decide +kernel
theorem dX2_readFrom_20 : decode cX2_readFrom 20 = .ok (.iconst 0, 1) := by decide +kernel
theorem dX2_readFrom_21 : decode cX2_readFrom 21 = .ok (.ireturn, 1) := by decide +kernel
theorem dX2_readFrom_22 : decode cX2_readFrom 22 = .ok (.aload_n 1, 1) := by decide +kernel
theorem dX2_readFrom_23 : decode cX2_readFrom 23 = .ok (.getfield 32, 3) := by decide +kernel
theorem dX2_readFrom_26 : decode cX2_readFrom 26 = .ok (.ifCond .ne 12, 3) := by decide +kernel
theorem dX2_readFrom_29 : decode cX2_readFrom 29 = .ok (.aload_n 0, 1) := by decide +kernel
theorem dX2_readFrom_30 : decode cX2_readFrom 30 = .ok (.iload_n 2, 1) := by decide +kernel
theorem dX2_readFrom_31 : decode cX2_readFrom 31 = .ok (.iconst 1, 1) := by decide +kernel
theorem dX2_readFrom_32 : decode cX2_readFrom 32 = .ok (.iadd, 1) := by decide +kernel
theorem dX2_readFrom_33 : decode cX2_readFrom 33 = .ok (.putfield 24, 3) := by decide +kernel
theorem dX2_readFrom_36 : decode cX2_readFrom 36 = .ok (.iconst 1, 1) := by decide +kernel
theorem dX2_readFrom_37 : decode cX2_readFrom 37 = .ok (.ireturn, 1) := by decide +kernel
theorem dX2_readFrom_38 : decode cX2_readFrom 38 = .ok (.aload_n 1, 1) := by decide +kernel
theorem dX2_readFrom_39 : decode cX2_readFrom 39 = .ok (.invokevirtual 37, 3) := by decide +kernel
theorem dX2_readFrom_42 : decode cX2_readFrom 42 = .ok (.ifCond .ne 5, 3) := by decide +kernel
theorem dX2_readFrom_45 : decode cX2_readFrom 45 = .ok (.iconst 0, 1) := by decide +kernel
theorem dX2_readFrom_46 : decode cX2_readFrom 46 = .ok (.ireturn, 1) := by decide +kernel
theorem dX2_readFrom_47 : decode cX2_readFrom 47 = .ok (.iinc 2 1, 3) := by decide +kernel
theorem dX2_readFrom_50 : decode cX2_readFrom 50 = .ok (.goto (-45), 3) := by decide +kernel
theorem dX2_readFrom_53 : decode cX2_readFrom 53 = .ok (.aload_n 1, 1) := by decide +kernel
theorem dX2_readFrom_54 : decode cX2_readFrom 54 = .ok (.iconst 3, 1) := by decide +kernel
theorem dX2_readFrom_55 : decode cX2_readFrom 55 = .ok (.invokevirtual 41, 3) := by decide +kernel
theorem dX2_readFrom_58 : decode cX2_readFrom 58 = .ok (.ireturn, 1) := by decide +kernel
theorem dX2_readLaw_0 : decode cX2_readLaw 0 = .ok (.aload_n 1, 1) := by decide +kernel
theorem dX2_readLaw_1 : decode cX2_readLaw 1 = .ok (.ldc 45, 2) := by decide +kernel
theorem dX2_readLaw_3 : decode cX2_readLaw 3 = .ok (.invokevirtual 47, 3) := by decide +kernel
theorem dX2_readLaw_6 : decode cX2_readLaw 6 = .ok (.istore_n 3, 1) := by decide +kernel
theorem dX2_readLaw_7 : decode cX2_readLaw 7 = .ok (.aload_n 1, 1) := by decide +kernel
theorem dX2_readLaw_8 : decode cX2_readLaw 8 = .ok (.ldc 51, 2) := by decide +kernel
theorem dX2_readLaw_10 : decode cX2_readLaw 10 = .ok (.invokevirtual 47, 3) := by decide +kernel
theorem dX2_readLaw_13 : decode cX2_readLaw 13 = .ok (.istore 4, 2) := by decide +kernel
theorem dX2_readLaw_15 : decode cX2_readLaw 15 = .ok (.iload_n 3, 1) := by decide +kernel
theorem dX2_readLaw_16 : decode cX2_readLaw 16 = .ok (.ifCond .ne 23, 3) := by decide +kernel
theorem dX2_readLaw_19 : decode cX2_readLaw 19 = .ok (.iload 4, 2) := by decide +kernel
theorem dX2_readLaw_21 : decode cX2_readLaw 21 = .ok (.ifCond .ne 18, 3) := by decide +kernel
theorem dX2_readLaw_24 : decode cX2_readLaw 24 = .ok (.aload_n 1, 1) := by decide +kernel
theorem dX2_readLaw_25 : decode cX2_readLaw 25 = .ok (.ldc 53, 2) := by decide +kernel
theorem dX2_readLaw_27 : decode cX2_readLaw 27 = .ok (.invokevirtual 47, 3) := by decide +kernel
theorem dX2_readLaw_30 : decode cX2_readLaw 30 = .ok (.ifCond .ne 9, 3) := by decide +kernel
theorem dX2_readLaw_33 : decode cX2_readLaw 33 = .ok (.aload_n 1, 1) := by decide +kernel
theorem dX2_readLaw_34 : decode cX2_readLaw 34 = .ok (.iconst 1, 1) := by decide +kernel
theorem dX2_readLaw_35 : decode cX2_readLaw 35 = .ok (.invokevirtual 41, 3) := by decide +kernel
theorem dX2_readLaw_38 : decode cX2_readLaw 38 = .ok (.ireturn, 1) := by decide +kernel
theorem dX2_readLaw_39 : decode cX2_readLaw 39 = .ok (.iload_n 2, 1) := by decide +kernel
theorem dX2_readLaw_40 : decode cX2_readLaw 40 = .ok (.bipush 10, 2) := by decide +kernel
theorem dX2_readLaw_42 : decode cX2_readLaw 42 = .ok (.if_icmp .lt 9, 3) := by decide +kernel
theorem dX2_readLaw_45 : decode cX2_readLaw 45 = .ok (.aload_n 1, 1) := by decide +kernel
theorem dX2_readLaw_46 : decode cX2_readLaw 46 = .ok (.iconst 3, 1) := by decide +kernel
theorem dX2_readLaw_47 : decode cX2_readLaw 47 = .ok (.invokevirtual 41, 3) := by decide +kernel
theorem dX2_readLaw_50 : decode cX2_readLaw 50 = .ok (.ireturn, 1) := by decide +kernel
theorem dX2_readLaw_51 : decode cX2_readLaw 51 = .ok (.aload_n 0, 1) := by decide +kernel
theorem dX2_readLaw_52 : decode cX2_readLaw 52 = .ok (.getfield 18, 3) := by decide +kernel
theorem dX2_readLaw_55 : decode cX2_readLaw 55 = .ok (.iload_n 2, 1) := by decide +kernel
theorem dX2_readLaw_56 : decode cX2_readLaw 56 = .ok (.iconst 0, 1) := by decide +kernel
theorem dX2_readLaw_57 : decode cX2_readLaw 57 = .ok (.iastore, 1) := by decide +kernel
theorem dX2_readLaw_58 : decode cX2_readLaw 58 = .ok (.aload_n 0, 1) := by decide +kernel
theorem dX2_readLaw_59 : decode cX2_readLaw 59 = .ok (.getfield 21, 3) := by decide +kernel
theorem dX2_readLaw_62 : decode cX2_readLaw 62 = .ok (.iload_n 2, 1) := by decide +kernel
theorem dX2_readLaw_63 : decode cX2_readLaw 63 = .ok (.iconst 0, 1) := by decide +kernel
theorem dX2_readLaw_64 : decode cX2_readLaw 64 = .ok (.iastore, 1) := by decide +kernel
theorem dX2_readLaw_65 : decode cX2_readLaw 65 = .ok (.aload_n 1, 1) := by decide +kernel
theorem dX2_readLaw_66 : decode cX2_readLaw 66 = .ok (.invokevirtual 55, 3) := by decide +kernel
theorem dX2_readLaw_69 : decode cX2_readLaw 69 = .ok (.aload_n 1, 1) := by decide +kernel
theorem dX2_readLaw_70 : decode cX2_readLaw 70 = .ok (.aload_n 0, 1) := by decide +kernel
theorem dX2_readLaw_71 : decode cX2_readLaw 71 = .ok (.getfield 15, 3) := by decide +kernel
theorem dX2_readLaw_74 : decode cX2_readLaw 74 = .ok (.iload_n 2, 1) := by decide +kernel
theorem dX2_readLaw_75 : decode cX2_readLaw 75 = .ok (.invokestatic 58, 3) := by decide +kernel
theorem dX2_readLaw_78 : decode cX2_readLaw 78 = .ok (.ifCond .ne 5, 3) := by decide +kernel
theorem dX2_readLaw_81 : decode cX2_readLaw 81 = .ok (.iconst 0, 1) := by decide +kernel
theorem dX2_readLaw_82 : decode cX2_readLaw 82 = .ok (.ireturn, 1) := by decide +kernel
theorem dX2_readLaw_83 : decode cX2_readLaw 83 = .ok (.iload 4, 2) := by decide +kernel
theorem dX2_readLaw_85 : decode cX2_readLaw 85 = .ok (.ifCond .eq 12, 3) := by decide +kernel
theorem dX2_readLaw_88 : decode cX2_readLaw 88 = .ok (.aload_n 0, 1) := by decide +kernel
theorem dX2_readLaw_89 : decode cX2_readLaw 89 = .ok (.getfield 9, 3) := by decide +kernel
theorem dX2_readLaw_92 : decode cX2_readLaw 92 = .ok (.iload_n 2, 1) := by decide +kernel
theorem dX2_readLaw_93 : decode cX2_readLaw 93 = .ok (.iconst 2, 1) := by decide +kernel
theorem dX2_readLaw_94 : decode cX2_readLaw 94 = .ok (.iastore, 1) := by decide +kernel
theorem dX2_readLaw_95 : decode cX2_readLaw 95 = .ok (.iconst 1, 1) := by decide +kernel
theorem dX2_readLaw_96 : decode cX2_readLaw 96 = .ok (.ireturn, 1) := by decide +kernel
theorem dX2_readLaw_97 : decode cX2_readLaw 97 = .ok (.iload_n 3, 1) := by decide +kernel
theorem dX2_readLaw_98 : decode cX2_readLaw 98 = .ok (.ifCond .eq 12, 3) := by decide +kernel
theorem dX2_readLaw_101 : decode cX2_readLaw 101 = .ok (.aload_n 0, 1) := by decide +kernel
theorem dX2_readLaw_102 : decode cX2_readLaw 102 = .ok (.aload_n 1, 1) := by decide +kernel
theorem dX2_readLaw_103 : decode cX2_readLaw 103 = .ok (.iload_n 2, 1) := by decide +kernel
theorem dX2_readLaw_104 : decode cX2_readLaw 104 = .ok (.invokevirtual 62, 3) := by decide +kernel
theorem dX2_readLaw_107 : decode cX2_readLaw 107 = .ok (.goto 9, 3) := by decide +kernel
theorem dX2_readLaw_110 : decode cX2_readLaw 110 = .ok (.aload_n 0, 1) := by decide +kernel
theorem dX2_readLaw_111 : decode cX2_readLaw 111 = .ok (.aload_n 1, 1) := by decide +kernel
theorem dX2_readLaw_112 : decode cX2_readLaw 112 = .ok (.iload_n 2, 1) := by decide +kernel
theorem dX2_readLaw_113 : decode cX2_readLaw 113 = .ok (.invokevirtual 65, 3) := by decide +kernel
theorem dX2_readLaw_116 : decode cX2_readLaw 116 = .ok (.ireturn, 1) := by decide +kernel
theorem dX2_readPosts_0 : decode cX2_readPosts 0 = .ok (.aload_n 1, 1) := by decide +kernel
theorem dX2_readPosts_1 : decode cX2_readPosts 1 = .ok (.ldc 68, 2) := by decide +kernel
theorem dX2_readPosts_3 : decode cX2_readPosts 3 = .ok (.invokevirtual 47, 3) := by decide +kernel
theorem dX2_readPosts_6 : decode cX2_readPosts 6 = .ok (.ifCond .eq 53, 3) := by decide +kernel
theorem dX2_readPosts_9 : decode cX2_readPosts 9 = .ok (.aload_n 0, 1) := by decide +kernel
theorem dX2_readPosts_10 : decode cX2_readPosts 10 = .ok (.getfield 9, 3) := by decide +kernel
theorem dX2_readPosts_13 : decode cX2_readPosts 13 = .ok (.iload_n 2, 1) := by decide +kernel
theorem dX2_readPosts_14 : decode cX2_readPosts 14 = .ok (.iconst 1, 1) := by decide +kernel
theorem dX2_readPosts_15 : decode cX2_readPosts 15 = .ok (.iastore, 1) := by decide +kernel
theorem dX2_readPosts_16 : decode cX2_readPosts 16 = .ok (.aload_n 1, 1) := by decide +kernel
theorem dX2_readPosts_17 : decode cX2_readPosts 17 = .ok (.invokevirtual 55, 3) := by decide +kernel
theorem dX2_readPosts_20 : decode cX2_readPosts 20 = .ok (.aload_n 1, 1) := by decide +kernel
theorem dX2_readPosts_21 : decode cX2_readPosts 21 = .ok (.aload_n 0, 1) := by decide +kernel
theorem dX2_readPosts_22 : decode cX2_readPosts 22 = .ok (.getfield 18, 3) := by decide +kernel
theorem dX2_readPosts_25 : decode cX2_readPosts 25 = .ok (.iload_n 2, 1) := by decide +kernel
theorem dX2_readPosts_26 : decode cX2_readPosts 26 = .ok (.invokestatic 58, 3) := by decide +kernel
theorem dX2_readPosts_29 : decode cX2_readPosts 29 = .ok (.ifCond .eq 28, 3) := by decide +kernel
theorem dX2_readPosts_32 : decode cX2_readPosts 32 = .ok (.aload_n 1, 1) := by decide +kernel
theorem dX2_readPosts_33 : decode cX2_readPosts 33 = .ok (.ldc 70, 2) := by decide +kernel
theorem dX2_readPosts_35 : decode cX2_readPosts 35 = .ok (.invokevirtual 72, 3) := by decide +kernel
theorem dX2_readPosts_38 : decode cX2_readPosts 38 = .ok (.ifCond .eq 19, 3) := by decide +kernel
theorem dX2_readPosts_41 : decode cX2_readPosts 41 = .ok (.aload_n 1, 1) := by decide +kernel
theorem dX2_readPosts_42 : decode cX2_readPosts 42 = .ok (.aload_n 0, 1) := by decide +kernel
theorem dX2_readPosts_43 : decode cX2_readPosts 43 = .ok (.getfield 21, 3) := by decide +kernel
theorem dX2_readPosts_46 : decode cX2_readPosts 46 = .ok (.iload_n 2, 1) := by decide +kernel
theorem dX2_readPosts_47 : decode cX2_readPosts 47 = .ok (.invokestatic 58, 3) := by decide +kernel
theorem dX2_readPosts_50 : decode cX2_readPosts 50 = .ok (.ifCond .eq 7, 3) := by decide +kernel
theorem dX2_readPosts_53 : decode cX2_readPosts 53 = .ok (.iconst 1, 1) := by decide +kernel
theorem dX2_readPosts_54 : decode cX2_readPosts 54 = .ok (.goto 4, 3) := by decide +kernel
theorem dX2_readPosts_57 : decode cX2_readPosts 57 = .ok (.iconst 0, 1) := by decide +kernel
theorem dX2_readPosts_58 : decode cX2_readPosts 58 = .ok (.ireturn, 1) := by decide +kernel
theorem dX2_readPosts_59 : decode cX2_readPosts 59 = .ok (.aload_n 0, 1) := by decide +kernel
theorem dX2_readPosts_60 : decode cX2_readPosts 60 = .ok (.getfield 9, 3) := by decide +kernel
theorem dX2_readPosts_63 : decode cX2_readPosts 63 = .ok (.iload_n 2, 1) := by decide +kernel
theorem dX2_readPosts_64 : decode cX2_readPosts 64 = .ok (.iconst 0, 1) := by decide +kernel
theorem dX2_readPosts_65 : decode cX2_readPosts 65 = .ok (.iastore, 1) := by decide +kernel
theorem dX2_readPosts_66 : decode cX2_readPosts 66 = .ok (.aload_n 1, 1) := by decide +kernel
theorem dX2_readPosts_67 : decode cX2_readPosts 67 = .ok (.ldc 75, 2) := by decide +kernel
theorem dX2_readPosts_69 : decode cX2_readPosts 69 = .ok (.invokevirtual 72, 3) := by decide +kernel
theorem dX2_readPosts_72 : decode cX2_readPosts 72 = .ok (.ifCond .eq 19, 3) := by decide +kernel
theorem dX2_readPosts_75 : decode cX2_readPosts 75 = .ok (.aload_n 1, 1) := by decide +kernel
theorem dX2_readPosts_76 : decode cX2_readPosts 76 = .ok (.aload_n 0, 1) := by decide +kernel
theorem dX2_readPosts_77 : decode cX2_readPosts 77 = .ok (.getfield 18, 3) := by decide +kernel
theorem dX2_readPosts_80 : decode cX2_readPosts 80 = .ok (.iload_n 2, 1) := by decide +kernel
theorem dX2_readPosts_81 : decode cX2_readPosts 81 = .ok (.invokestatic 58, 3) := by decide +kernel
theorem dX2_readPosts_84 : decode cX2_readPosts 84 = .ok (.ifCond .eq 7, 3) := by decide +kernel
theorem dX2_readPosts_87 : decode cX2_readPosts 87 = .ok (.iconst 1, 1) := by decide +kernel
theorem dX2_readPosts_88 : decode cX2_readPosts 88 = .ok (.goto 4, 3) := by decide +kernel
theorem dX2_readPosts_91 : decode cX2_readPosts 91 = .ok (.iconst 0, 1) := by decide +kernel
theorem dX2_readPosts_92 : decode cX2_readPosts 92 = .ok (.ireturn, 1) := by decide +kernel
theorem dX2_readSecondFine_0 : decode cX2_readSecondFine 0 = .ok (.aload_n 0, 1) := by decide +kernel
theorem dX2_readSecondFine_1 : decode cX2_readSecondFine 1 = .ok (.getfield 9, 3) := by decide +kernel
theorem dX2_readSecondFine_4 : decode cX2_readSecondFine 4 = .ok (.iload_n 2, 1) := by decide +kernel
theorem dX2_readSecondFine_5 : decode cX2_readSecondFine 5 = .ok (.iconst 3, 1) := by decide +kernel
theorem dX2_readSecondFine_6 : decode cX2_readSecondFine 6 = .ok (.iastore, 1) := by decide +kernel
theorem dX2_readSecondFine_7 : decode cX2_readSecondFine 7 = .ok (.aload_n 1, 1) := by decide +kernel
theorem dX2_readSecondFine_8 : decode cX2_readSecondFine 8 = .ok (.ldc 77, 2) := by decide +kernel
theorem dX2_readSecondFine_10 : decode cX2_readSecondFine 10 = .ok (.invokevirtual 72, 3) := by decide +kernel
theorem dX2_readSecondFine_13 : decode cX2_readSecondFine 13 = .ok (.ifCond .eq 19, 3) := by decide +kernel
theorem dX2_readSecondFine_16 : decode cX2_readSecondFine 16 = .ok (.aload_n 1, 1) := by decide +kernel
theorem dX2_readSecondFine_17 : decode cX2_readSecondFine 17 = .ok (.aload_n 0, 1) := by decide +kernel
theorem dX2_readSecondFine_18 : decode cX2_readSecondFine 18 = .ok (.getfield 18, 3) := by decide +kernel
theorem dX2_readSecondFine_21 : decode cX2_readSecondFine 21 = .ok (.iload_n 2, 1) := by decide +kernel
theorem dX2_readSecondFine_22 : decode cX2_readSecondFine 22 = .ok (.invokestatic 58, 3) := by decide +kernel
theorem dX2_readSecondFine_25 : decode cX2_readSecondFine 25 = .ok (.ifCond .eq 7, 3) := by decide +kernel
theorem dX2_readSecondFine_28 : decode cX2_readSecondFine 28 = .ok (.iconst 1, 1) := by decide +kernel
theorem dX2_readSecondFine_29 : decode cX2_readSecondFine 29 = .ok (.goto 4, 3) := by decide +kernel
theorem dX2_readSecondFine_32 : decode cX2_readSecondFine 32 = .ok (.iconst 0, 1) := by decide +kernel
theorem dX2_readSecondFine_33 : decode cX2_readSecondFine 33 = .ok (.ireturn, 1) := by decide +kernel
theorem dX2_readNumber_0 : decode cX2_readNumber 0 = .ok (.aload_n 0, 1) := by decide +kernel
theorem dX2_readNumber_1 : decode cX2_readNumber 1 = .ok (.getfield 32, 3) := by decide +kernel
theorem dX2_readNumber_4 : decode cX2_readNumber 4 = .ok (.iconst 2, 1) := by decide +kernel
theorem dX2_readNumber_5 : decode cX2_readNumber 5 = .ok (.if_icmp .eq 9, 3) := by decide +kernel
theorem dX2_readNumber_8 : decode cX2_readNumber 8 = .ok (.aload_n 0, 1) := by decide +kernel
theorem dX2_readNumber_9 : decode cX2_readNumber 9 = .ok (.iconst 1, 1) := by decide +kernel
theorem dX2_readNumber_10 : decode cX2_readNumber 10 = .ok (.invokevirtual 41, 3) := by decide +kernel
theorem dX2_readNumber_13 : decode cX2_readNumber 13 = .ok (.ireturn, 1) := by decide +kernel
theorem dX2_readNumber_14 : decode cX2_readNumber 14 = .ok (.aload_n 1, 1) := by decide +kernel
theorem dX2_readNumber_15 : decode cX2_readNumber 15 = .ok (.iload_n 2, 1) := by decide +kernel
theorem dX2_readNumber_16 : decode cX2_readNumber 16 = .ok (.aload_n 0, 1) := by decide +kernel
theorem dX2_readNumber_17 : decode cX2_readNumber 17 = .ok (.getfield 79, 3) := by decide +kernel
theorem dX2_readNumber_20 : decode cX2_readNumber 20 = .ok (.iastore, 1) := by decide +kernel
theorem dX2_readNumber_21 : decode cX2_readNumber 21 = .ok (.aload_n 0, 1) := by decide +kernel
theorem dX2_readNumber_22 : decode cX2_readNumber 22 = .ok (.invokevirtual 55, 3) := by decide +kernel
theorem dX2_readNumber_25 : decode cX2_readNumber 25 = .ok (.iconst 1, 1) := by decide +kernel
theorem dX2_readNumber_26 : decode cX2_readNumber 26 = .ok (.ireturn, 1) := by decide +kernel
theorem dX2_part_0 : decode cX2_part 0 = .ok (.iload_n 2, 1) := by decide +kernel
theorem dX2_part_1 : decode cX2_part 1 = .ok (.tableswitch 59 0 3 #[31, 38, 45, 52], 31) := by decide +kernel
theorem dX2_part_32 : decode cX2_part 32 = .ok (.aload_n 0, 1) := by decide +kernel
theorem dX2_part_33 : decode cX2_part 33 = .ok (.getfield 9, 3) := by decide +kernel
theorem dX2_part_36 : decode cX2_part 36 = .ok (.iload_n 1, 1) := by decide +kernel
theorem dX2_part_37 : decode cX2_part 37 = .ok (.iaload, 1) := by decide +kernel
theorem dX2_part_38 : decode cX2_part 38 = .ok (.ireturn, 1) := by decide +kernel
theorem dX2_part_39 : decode cX2_part 39 = .ok (.aload_n 0, 1) := by decide +kernel
theorem dX2_part_40 : decode cX2_part 40 = .ok (.getfield 15, 3) := by decide +kernel
theorem dX2_part_43 : decode cX2_part 43 = .ok (.iload_n 1, 1) := by decide +kernel
theorem dX2_part_44 : decode cX2_part 44 = .ok (.iaload, 1) := by decide +kernel
theorem dX2_part_45 : decode cX2_part 45 = .ok (.ireturn, 1) := by decide +kernel
theorem dX2_part_46 : decode cX2_part 46 = .ok (.aload_n 0, 1) := by decide +kernel
theorem dX2_part_47 : decode cX2_part 47 = .ok (.getfield 18, 3) := by decide +kernel
theorem dX2_part_50 : decode cX2_part 50 = .ok (.iload_n 1, 1) := by decide +kernel
theorem dX2_part_51 : decode cX2_part 51 = .ok (.iaload, 1) := by decide +kernel
theorem dX2_part_52 : decode cX2_part 52 = .ok (.ireturn, 1) := by decide +kernel
theorem dX2_part_53 : decode cX2_part 53 = .ok (.aload_n 0, 1) := by decide +kernel
theorem dX2_part_54 : decode cX2_part 54 = .ok (.getfield 21, 3) := by decide +kernel
theorem dX2_part_57 : decode cX2_part 57 = .ok (.iload_n 1, 1) := by decide +kernel
theorem dX2_part_58 : decode cX2_part 58 = .ok (.iaload, 1) := by decide +kernel
theorem dX2_part_59 : decode cX2_part 59 = .ok (.ireturn, 1) := by decide +kernel
theorem dX2_part_60 : decode cX2_part 60 = .ok (.iconst (-1), 1) := by decide +kernel
theorem dX2_part_61 : decode cX2_part 61 = .ok (.ireturn, 1) := by decide +kernel
theorem dX2_lackOf_0 : decode cX2_lackOf 0 = .ok (.aload_n 0, 1) := by decide +kernel
theorem dX2_lackOf_1 : decode cX2_lackOf 1 = .ok (.getfield 9, 3) := by decide +kernel
theorem dX2_lackOf_4 : decode cX2_lackOf 4 = .ok (.iload_n 1, 1) := by decide +kernel
theorem dX2_lackOf_5 : decode cX2_lackOf 5 = .ok (.iaload, 1) := by decide +kernel
theorem dX2_lackOf_6 : decode cX2_lackOf 6 = .ok (.tableswitch 93 0 2 #[26, 50, 74], 26) := by decide +kernel
theorem dX2_lackOf_32 : decode cX2_lackOf 32 = .ok (.aload_n 0, 1) := by decide +kernel
theorem dX2_lackOf_33 : decode cX2_lackOf 33 = .ok (.getfield 15, 3) := by decide +kernel
theorem dX2_lackOf_36 : decode cX2_lackOf 36 = .ok (.iload_n 1, 1) := by decide +kernel
theorem dX2_lackOf_37 : decode cX2_lackOf 37 = .ok (.iaload, 1) := by decide +kernel
theorem dX2_lackOf_38 : decode cX2_lackOf 38 = .ok (.aload_n 0, 1) := by decide +kernel
theorem dX2_lackOf_39 : decode cX2_lackOf 39 = .ok (.getfield 18, 3) := by decide +kernel
theorem dX2_lackOf_42 : decode cX2_lackOf 42 = .ok (.iload_n 1, 1) := by decide +kernel
theorem dX2_lackOf_43 : decode cX2_lackOf 43 = .ok (.iaload, 1) := by decide +kernel
theorem dX2_lackOf_44 : decode cX2_lackOf 44 = .ok (.aload_n 0, 1) := by decide +kernel
theorem dX2_lackOf_45 : decode cX2_lackOf 45 = .ok (.getfield 18, 3) := by decide +kernel
theorem dX2_lackOf_48 : decode cX2_lackOf 48 = .ok (.iload_n 1, 1) := by decide +kernel
theorem dX2_lackOf_49 : decode cX2_lackOf 49 = .ok (.iaload, 1) := by decide +kernel
theorem dX2_lackOf_50 : decode cX2_lackOf 50 = .ok (.aload_n 2, 1) := by decide +kernel
theorem dX2_lackOf_51 : decode cX2_lackOf 51 = .ok (.iload_n 3, 1) := by decide +kernel
theorem dX2_lackOf_52 : decode cX2_lackOf 52 = .ok (.invokestatic 82, 3) := by decide +kernel
theorem dX2_lackOf_55 : decode cX2_lackOf 55 = .ok (.ireturn, 1) := by decide +kernel
theorem dX2_lackOf_56 : decode cX2_lackOf 56 = .ok (.aload_n 0, 1) := by decide +kernel
theorem dX2_lackOf_57 : decode cX2_lackOf 57 = .ok (.getfield 15, 3) := by decide +kernel
theorem dX2_lackOf_60 : decode cX2_lackOf 60 = .ok (.iload_n 1, 1) := by decide +kernel
theorem dX2_lackOf_61 : decode cX2_lackOf 61 = .ok (.iaload, 1) := by decide +kernel
theorem dX2_lackOf_62 : decode cX2_lackOf 62 = .ok (.aload_n 0, 1) := by decide +kernel
theorem dX2_lackOf_63 : decode cX2_lackOf 63 = .ok (.getfield 18, 3) := by decide +kernel
theorem dX2_lackOf_66 : decode cX2_lackOf 66 = .ok (.iload_n 1, 1) := by decide +kernel
theorem dX2_lackOf_67 : decode cX2_lackOf 67 = .ok (.iaload, 1) := by decide +kernel
theorem dX2_lackOf_68 : decode cX2_lackOf 68 = .ok (.aload_n 0, 1) := by decide +kernel
theorem dX2_lackOf_69 : decode cX2_lackOf 69 = .ok (.getfield 21, 3) := by decide +kernel
theorem dX2_lackOf_72 : decode cX2_lackOf 72 = .ok (.iload_n 1, 1) := by decide +kernel
theorem dX2_lackOf_73 : decode cX2_lackOf 73 = .ok (.iaload, 1) := by decide +kernel
theorem dX2_lackOf_74 : decode cX2_lackOf 74 = .ok (.aload_n 2, 1) := by decide +kernel
theorem dX2_lackOf_75 : decode cX2_lackOf 75 = .ok (.iload_n 3, 1) := by decide +kernel
theorem dX2_lackOf_76 : decode cX2_lackOf 76 = .ok (.invokestatic 82, 3) := by decide +kernel
theorem dX2_lackOf_79 : decode cX2_lackOf 79 = .ok (.ireturn, 1) := by decide +kernel
theorem dX2_lackOf_80 : decode cX2_lackOf 80 = .ok (.iconst 0, 1) := by decide +kernel
theorem dX2_lackOf_81 : decode cX2_lackOf 81 = .ok (.aload_n 0, 1) := by decide +kernel
theorem dX2_lackOf_82 : decode cX2_lackOf 82 = .ok (.getfield 15, 3) := by decide +kernel
theorem dX2_lackOf_85 : decode cX2_lackOf 85 = .ok (.iload_n 1, 1) := by decide +kernel
theorem dX2_lackOf_86 : decode cX2_lackOf 86 = .ok (.iaload, 1) := by decide +kernel
theorem dX2_lackOf_87 : decode cX2_lackOf 87 = .ok (.aload_n 2, 1) := by decide +kernel
theorem dX2_lackOf_88 : decode cX2_lackOf 88 = .ok (.getfield 86, 3) := by decide +kernel
theorem dX2_lackOf_91 : decode cX2_lackOf 91 = .ok (.getfield 91, 3) := by decide +kernel
theorem dX2_lackOf_94 : decode cX2_lackOf 94 = .ok (.isub, 1) := by decide +kernel
theorem dX2_lackOf_95 : decode cX2_lackOf 95 = .ok (.invokestatic 96, 3) := by decide +kernel
theorem dX2_lackOf_98 : decode cX2_lackOf 98 = .ok (.ireturn, 1) := by decide +kernel
theorem dX2_lackOf_99 : decode cX2_lackOf 99 = .ok (.iconst 0, 1) := by decide +kernel
theorem dX2_lackOf_100 : decode cX2_lackOf 100 = .ok (.ireturn, 1) := by decide +kernel
theorem dX2_leastLack_0 : decode cX2_leastLack 0 = .ok (.iload_n 1, 1) := by decide +kernel
theorem dX2_leastLack_1 : decode cX2_leastLack 1 = .ok (.iload_n 2, 1) := by decide +kernel
theorem dX2_leastLack_2 : decode cX2_leastLack 2 = .ok (.if_icmp .gt 9, 3) := by decide +kernel
theorem dX2_leastLack_5 : decode cX2_leastLack 5 = .ok (.iload_n 2, 1) := by decide +kernel
theorem dX2_leastLack_6 : decode cX2_leastLack 6 = .ok (.iload 4, 2) := by decide +kernel
theorem dX2_leastLack_8 : decode cX2_leastLack 8 = .ok (.if_icmp .lt 5, 3) := by decide +kernel
theorem dX2_leastLack_11 : decode cX2_leastLack 11 = .ok (.iconst 0, 1) := by decide +kernel
theorem dX2_leastLack_12 : decode cX2_leastLack 12 = .ok (.ireturn, 1) := by decide +kernel
theorem dX2_leastLack_13 : decode cX2_leastLack 13 = .ok (.iload_n 0, 1) := by decide +kernel
theorem dX2_leastLack_14 : decode cX2_leastLack 14 = .ok (.istore 5, 2) := by decide +kernel
theorem dX2_leastLack_16 : decode cX2_leastLack 16 = .ok (.iload_n 1, 1) := by decide +kernel
theorem dX2_leastLack_17 : decode cX2_leastLack 17 = .ok (.istore 6, 2) := by decide +kernel
theorem dX2_leastLack_19 : decode cX2_leastLack 19 = .ok (.iload 6, 2) := by decide +kernel
theorem dX2_leastLack_21 : decode cX2_leastLack 21 = .ok (.iload_n 2, 1) := by decide +kernel
theorem dX2_leastLack_22 : decode cX2_leastLack 22 = .ok (.if_icmp .gt 24, 3) := by decide +kernel
theorem dX2_leastLack_25 : decode cX2_leastLack 25 = .ok (.iload 5, 2) := by decide +kernel
theorem dX2_leastLack_27 : decode cX2_leastLack 27 = .ok (.iload_n 0, 1) := by decide +kernel
theorem dX2_leastLack_28 : decode cX2_leastLack 28 = .ok (.aload_n 3, 1) := by decide +kernel
theorem dX2_leastLack_29 : decode cX2_leastLack 29 = .ok (.iload 6, 2) := by decide +kernel
theorem dX2_leastLack_31 : decode cX2_leastLack 31 = .ok (.invokevirtual 102, 3) := by decide +kernel
theorem dX2_leastLack_34 : decode cX2_leastLack 34 = .ok (.isub, 1) := by decide +kernel
theorem dX2_leastLack_35 : decode cX2_leastLack 35 = .ok (.invokestatic 106, 3) := by decide +kernel
theorem dX2_leastLack_38 : decode cX2_leastLack 38 = .ok (.istore 5, 2) := by decide +kernel
theorem dX2_leastLack_40 : decode cX2_leastLack 40 = .ok (.iinc 6 1, 3) := by decide +kernel
theorem dX2_leastLack_43 : decode cX2_leastLack 43 = .ok (.goto (-24), 3) := by decide +kernel
theorem dX2_leastLack_46 : decode cX2_leastLack 46 = .ok (.iconst 0, 1) := by decide +kernel
theorem dX2_leastLack_47 : decode cX2_leastLack 47 = .ok (.iload 5, 2) := by decide +kernel
theorem dX2_leastLack_49 : decode cX2_leastLack 49 = .ok (.invokestatic 96, 3) := by decide +kernel
theorem dX2_leastLack_52 : decode cX2_leastLack 52 = .ok (.ireturn, 1) := by decide +kernel
theorem dX2_resultOf_0 : decode cX2_resultOf 0 = .ok (.iconst 0, 1) := by decide +kernel
theorem dX2_resultOf_1 : decode cX2_resultOf 1 = .ok (.istore_n 3, 1) := by decide +kernel
theorem dX2_resultOf_2 : decode cX2_resultOf 2 = .ok (.iconst 0, 1) := by decide +kernel
theorem dX2_resultOf_3 : decode cX2_resultOf 3 = .ok (.istore 4, 2) := by decide +kernel
theorem dX2_resultOf_5 : decode cX2_resultOf 5 = .ok (.iconst 2, 1) := by decide +kernel
theorem dX2_resultOf_6 : decode cX2_resultOf 6 = .ok (.istore 5, 2) := by decide +kernel
theorem dX2_resultOf_8 : decode cX2_resultOf 8 = .ok (.bipush 60, 2) := by decide +kernel
theorem dX2_resultOf_10 : decode cX2_resultOf 10 = .ok (.istore 6, 2) := by decide +kernel
theorem dX2_resultOf_12 : decode cX2_resultOf 12 = .ok (.iconst 0, 1) := by decide +kernel
theorem dX2_resultOf_13 : decode cX2_resultOf 13 = .ok (.istore 7, 2) := by decide +kernel
theorem dX2_resultOf_15 : decode cX2_resultOf 15 = .ok (.iload 7, 2) := by decide +kernel
theorem dX2_resultOf_17 : decode cX2_resultOf 17 = .ok (.aload_n 0, 1) := by decide +kernel
theorem dX2_resultOf_18 : decode cX2_resultOf 18 = .ok (.getfield 24, 3) := by decide +kernel
theorem dX2_resultOf_21 : decode cX2_resultOf 21 = .ok (.if_icmp .ge 79, 3) := by decide +kernel
theorem dX2_resultOf_24 : decode cX2_resultOf 24 = .ok (.aload_n 0, 1) := by decide +kernel
theorem dX2_resultOf_25 : decode cX2_resultOf 25 = .ok (.getfield 9, 3) := by decide +kernel
theorem dX2_resultOf_28 : decode cX2_resultOf 28 = .ok (.iload 7, 2) := by decide +kernel
theorem dX2_resultOf_30 : decode cX2_resultOf 30 = .ok (.iaload, 1) := by decide +kernel
theorem dX2_resultOf_31 : decode cX2_resultOf 31 = .ok (.iconst 3, 1) := by decide +kernel
theorem dX2_resultOf_32 : decode cX2_resultOf 32 = .ok (.if_icmp .ne 24, 3) := by decide +kernel
theorem dX2_resultOf_35 : decode cX2_resultOf 35 = .ok (.aload_n 0, 1) := by decide +kernel
theorem dX2_resultOf_36 : decode cX2_resultOf 36 = .ok (.getfield 15, 3) := by decide +kernel
theorem dX2_resultOf_39 : decode cX2_resultOf 39 = .ok (.iload 7, 2) := by decide +kernel
theorem dX2_resultOf_41 : decode cX2_resultOf 41 = .ok (.iaload, 1) := by decide +kernel
theorem dX2_resultOf_42 : decode cX2_resultOf 42 = .ok (.istore 5, 2) := by decide +kernel
theorem dX2_resultOf_44 : decode cX2_resultOf 44 = .ok (.aload_n 0, 1) := by decide +kernel
theorem dX2_resultOf_45 : decode cX2_resultOf 45 = .ok (.getfield 18, 3) := by decide +kernel
theorem dX2_resultOf_48 : decode cX2_resultOf 48 = .ok (.iload 7, 2) := by decide +kernel
theorem dX2_resultOf_50 : decode cX2_resultOf 50 = .ok (.iaload, 1) := by decide +kernel
theorem dX2_resultOf_51 : decode cX2_resultOf 51 = .ok (.istore 6, 2) := by decide +kernel
theorem dX2_resultOf_53 : decode cX2_resultOf 53 = .ok (.goto 41, 3) := by decide +kernel
theorem dX2_resultOf_56 : decode cX2_resultOf 56 = .ok (.aload_n 0, 1) := by decide +kernel
theorem dX2_resultOf_57 : decode cX2_resultOf 57 = .ok (.getfield 9, 3) := by decide +kernel
theorem dX2_resultOf_60 : decode cX2_resultOf 60 = .ok (.iload 7, 2) := by decide +kernel
theorem dX2_resultOf_62 : decode cX2_resultOf 62 = .ok (.iaload, 1) := by decide +kernel
theorem dX2_resultOf_63 : decode cX2_resultOf 63 = .ok (.iconst 2, 1) := by decide +kernel
theorem dX2_resultOf_64 : decode cX2_resultOf 64 = .ok (.if_icmp .ne 19, 3) := by decide +kernel
theorem dX2_resultOf_67 : decode cX2_resultOf 67 = .ok (.iload 4, 2) := by decide +kernel
theorem dX2_resultOf_69 : decode cX2_resultOf 69 = .ok (.aload_n 0, 1) := by decide +kernel
theorem dX2_resultOf_70 : decode cX2_resultOf 70 = .ok (.iload 7, 2) := by decide +kernel
theorem dX2_resultOf_72 : decode cX2_resultOf 72 = .ok (.aload_n 1, 1) := by decide +kernel
theorem dX2_resultOf_73 : decode cX2_resultOf 73 = .ok (.iload_n 2, 1) := by decide +kernel
theorem dX2_resultOf_74 : decode cX2_resultOf 74 = .ok (.invokevirtual 109, 3) := by decide +kernel
theorem dX2_resultOf_77 : decode cX2_resultOf 77 = .ok (.iadd, 1) := by decide +kernel
theorem dX2_resultOf_78 : decode cX2_resultOf 78 = .ok (.istore 4, 2) := by decide +kernel
theorem dX2_resultOf_80 : decode cX2_resultOf 80 = .ok (.goto 14, 3) := by decide +kernel
theorem dX2_resultOf_83 : decode cX2_resultOf 83 = .ok (.iload_n 3, 1) := by decide +kernel
theorem dX2_resultOf_84 : decode cX2_resultOf 84 = .ok (.aload_n 0, 1) := by decide +kernel
theorem dX2_resultOf_85 : decode cX2_resultOf 85 = .ok (.iload 7, 2) := by decide +kernel
theorem dX2_resultOf_87 : decode cX2_resultOf 87 = .ok (.aload_n 1, 1) := by decide +kernel
theorem dX2_resultOf_88 : decode cX2_resultOf 88 = .ok (.iload_n 2, 1) := by decide +kernel
theorem dX2_resultOf_89 : decode cX2_resultOf 89 = .ok (.invokevirtual 109, 3) := by decide +kernel
theorem dX2_resultOf_92 : decode cX2_resultOf 92 = .ok (.iadd, 1) := by decide +kernel
theorem dX2_resultOf_93 : decode cX2_resultOf 93 = .ok (.istore_n 3, 1) := by decide +kernel
theorem dX2_resultOf_94 : decode cX2_resultOf 94 = .ok (.iinc 7 1, 3) := by decide +kernel
theorem dX2_resultOf_97 : decode cX2_resultOf 97 = .ok (.goto (-82), 3) := by decide +kernel
theorem dX2_resultOf_100 : decode cX2_resultOf 100 = .ok (.aload_n 1, 1) := by decide +kernel
theorem dX2_resultOf_101 : decode cX2_resultOf 101 = .ok (.getfield 113, 3) := by decide +kernel
theorem dX2_resultOf_104 : decode cX2_resultOf 104 = .ok (.iload_n 2, 1) := by decide +kernel
theorem dX2_resultOf_105 : decode cX2_resultOf 105 = .ok (.iaload, 1) := by decide +kernel
theorem dX2_resultOf_106 : decode cX2_resultOf 106 = .ok (.aload_n 1, 1) := by decide +kernel
theorem dX2_resultOf_107 : decode cX2_resultOf 107 = .ok (.getfield 116, 3) := by decide +kernel
theorem dX2_resultOf_110 : decode cX2_resultOf 110 = .ok (.isub, 1) := by decide +kernel
theorem dX2_resultOf_111 : decode cX2_resultOf 111 = .ok (.iload 5, 2) := by decide +kernel
theorem dX2_resultOf_113 : decode cX2_resultOf 113 = .ok (.iload_n 3, 1) := by decide +kernel
theorem dX2_resultOf_114 : decode cX2_resultOf 114 = .ok (.imul, 1) := by decide +kernel
theorem dX2_resultOf_115 : decode cX2_resultOf 115 = .ok (.iadd, 1) := by decide +kernel
theorem dX2_resultOf_116 : decode cX2_resultOf 116 = .ok (.iload 6, 2) := by decide +kernel
theorem dX2_resultOf_118 : decode cX2_resultOf 118 = .ok (.iload 4, 2) := by decide +kernel
theorem dX2_resultOf_120 : decode cX2_resultOf 120 = .ok (.imul, 1) := by decide +kernel
theorem dX2_resultOf_121 : decode cX2_resultOf 121 = .ok (.iadd, 1) := by decide +kernel
theorem dX2_resultOf_122 : decode cX2_resultOf 122 = .ok (.ireturn, 1) := by decide +kernel
theorem dX3_valueOf_0 : decode cX3_valueOf 0 = .ok (.iload_n 0, 1) := by decide +kernel
theorem dX3_valueOf_1 : decode cX3_valueOf 1 = .ok (.tableswitch 151 0 10 #[59, 64, 69, 77, 85, 94, 99, 107, 121, 129, 146], 59) := by decide +kernel
theorem dX3_valueOf_60 : decode cX3_valueOf 60 = .ok (.aload_n 1, 1) := by decide +kernel
theorem dX3_valueOf_61 : decode cX3_valueOf 61 = .ok (.getfield 9, 3) := by decide +kernel
theorem dX3_valueOf_64 : decode cX3_valueOf 64 = .ok (.ireturn, 1) := by decide +kernel
theorem dX3_valueOf_65 : decode cX3_valueOf 65 = .ok (.aload_n 1, 1) := by decide +kernel
theorem dX3_valueOf_66 : decode cX3_valueOf 66 = .ok (.getfield 15, 3) := by decide +kernel
theorem dX3_valueOf_69 : decode cX3_valueOf 69 = .ok (.ireturn, 1) := by decide +kernel
theorem dX3_valueOf_70 : decode cX3_valueOf 70 = .ok (.aload_n 1, 1) := by decide +kernel
theorem dX3_valueOf_71 : decode cX3_valueOf 71 = .ok (.getfield 18, 3) := by decide +kernel
theorem dX3_valueOf_74 : decode cX3_valueOf 74 = .ok (.invokevirtual 22, 3) := by decide +kernel
theorem dX3_valueOf_77 : decode cX3_valueOf 77 = .ok (.ireturn, 1) := by decide +kernel
theorem dX3_valueOf_78 : decode cX3_valueOf 78 = .ok (.aload_n 1, 1) := by decide +kernel
theorem dX3_valueOf_79 : decode cX3_valueOf 79 = .ok (.getfield 18, 3) := by decide +kernel
theorem dX3_valueOf_82 : decode cX3_valueOf 82 = .ok (.invokevirtual 28, 3) := by decide +kernel
theorem dX3_valueOf_85 : decode cX3_valueOf 85 = .ok (.ireturn, 1) := by decide +kernel
theorem dX3_valueOf_86 : decode cX3_valueOf 86 = .ok (.aload_n 2, 1) := by decide +kernel
theorem dX3_valueOf_87 : decode cX3_valueOf 87 = .ok (.iload_n 3, 1) := by decide +kernel
theorem dX3_valueOf_88 : decode cX3_valueOf 88 = .ok (.invokevirtual 31, 3) := by decide +kernel
theorem dX3_valueOf_91 : decode cX3_valueOf 91 = .ok (.bipush 100, 2) := by decide +kernel
theorem dX3_valueOf_93 : decode cX3_valueOf 93 = .ok (.iadd, 1) := by decide +kernel
theorem dX3_valueOf_94 : decode cX3_valueOf 94 = .ok (.ireturn, 1) := by decide +kernel
theorem dX3_valueOf_95 : decode cX3_valueOf 95 = .ok (.aload_n 1, 1) := by decide +kernel
theorem dX3_valueOf_96 : decode cX3_valueOf 96 = .ok (.getfield 37, 3) := by decide +kernel
theorem dX3_valueOf_99 : decode cX3_valueOf 99 = .ok (.ireturn, 1) := by decide +kernel
theorem dX3_valueOf_100 : decode cX3_valueOf 100 = .ok (.aload_n 1, 1) := by decide +kernel
theorem dX3_valueOf_101 : decode cX3_valueOf 101 = .ok (.getfield 18, 3) := by decide +kernel
theorem dX3_valueOf_104 : decode cX3_valueOf 104 = .ok (.getfield 40, 3) := by decide +kernel
theorem dX3_valueOf_107 : decode cX3_valueOf 107 = .ok (.ireturn, 1) := by decide +kernel
theorem dX3_valueOf_108 : decode cX3_valueOf 108 = .ok (.aload_n 2, 1) := by decide +kernel
theorem dX3_valueOf_109 : decode cX3_valueOf 109 = .ok (.aload_n 1, 1) := by decide +kernel
theorem dX3_valueOf_110 : decode cX3_valueOf 110 = .ok (.getfield 43, 3) := by decide +kernel
theorem dX3_valueOf_113 : decode cX3_valueOf 113 = .ok (.invokevirtual 46, 3) := by decide +kernel
theorem dX3_valueOf_116 : decode cX3_valueOf 116 = .ok (.aload_n 1, 1) := by decide +kernel
theorem dX3_valueOf_117 : decode cX3_valueOf 117 = .ok (.getfield 49, 3) := by decide +kernel
theorem dX3_valueOf_120 : decode cX3_valueOf 120 = .ok (.isub, 1) := by decide +kernel
theorem dX3_valueOf_121 : decode cX3_valueOf 121 = .ok (.ireturn, 1) := by decide +kernel
theorem dX3_valueOf_122 : decode cX3_valueOf 122 = .ok (.iload_n 3, 1) := by decide +kernel
theorem dX3_valueOf_123 : decode cX3_valueOf 123 = .ok (.bipush 6, 2) := by decide +kernel
theorem dX3_valueOf_125 : decode cX3_valueOf 125 = .ok (.idiv, 1) := by decide +kernel
theorem dX3_valueOf_126 : decode cX3_valueOf 126 = .ok (.bipush 24, 2) := by decide +kernel
theorem dX3_valueOf_128 : decode cX3_valueOf 128 = .ok (.irem, 1) := by decide +kernel
theorem dX3_valueOf_129 : decode cX3_valueOf 129 = .ok (.ireturn, 1) := by decide +kernel
theorem dX3_valueOf_130 : decode cX3_valueOf 130 = .ok (.aload_n 1, 1) := by decide +kernel
theorem dX3_valueOf_131 : decode cX3_valueOf 131 = .ok (.getfield 49, 3) := by decide +kernel
theorem dX3_valueOf_134 : decode cX3_valueOf 134 = .ok (.ifCond .ne 10, 3) := by decide +kernel
theorem dX3_valueOf_137 : decode cX3_valueOf 137 = .ok (.aload_n 1, 1) := by decide +kernel
theorem dX3_valueOf_138 : decode cX3_valueOf 138 = .ok (.getfield 43, 3) := by decide +kernel
theorem dX3_valueOf_141 : decode cX3_valueOf 141 = .ok (.goto 5, 3) := by decide +kernel
theorem dX3_valueOf_144 : decode cX3_valueOf 144 = .ok (.bipush 99, 2) := by decide +kernel
theorem dX3_valueOf_146 : decode cX3_valueOf 146 = .ok (.ireturn, 1) := by decide +kernel
theorem dX3_valueOf_147 : decode cX3_valueOf 147 = .ok (.aload_n 1, 1) := by decide +kernel
theorem dX3_valueOf_148 : decode cX3_valueOf 148 = .ok (.invokevirtual 52, 3) := by decide +kernel
theorem dX3_valueOf_151 : decode cX3_valueOf 151 = .ok (.ireturn, 1) := by decide +kernel
theorem dX3_valueOf_152 : decode cX3_valueOf 152 = .ok (.iconst 0, 1) := by decide +kernel
theorem dX3_valueOf_153 : decode cX3_valueOf 153 = .ok (.ireturn, 1) := by decide +kernel
theorem dX4_init_0 : decode cX4_init 0 = .ok (.aload_n 0, 1) := by decide +kernel
theorem dX4_init_1 : decode cX4_init 1 = .ok (.invokespecial 3, 3) := by decide +kernel
theorem dX4_init_4 : decode cX4_init 4 = .ok (.aload_n 0, 1) := by decide +kernel
theorem dX4_init_5 : decode cX4_init 5 = .ok (.bipush 12, 2) := by decide +kernel
theorem dX4_init_7 : decode cX4_init 7 = .ok (.newarray .int, 2) := by decide +kernel
theorem dX4_init_9 : decode cX4_init 9 = .ok (.putfield 9, 3) := by decide +kernel
theorem dX4_init_12 : decode cX4_init 12 = .ok (.aload_n 0, 1) := by decide +kernel
theorem dX4_init_13 : decode cX4_init 13 = .ok (.bipush 12, 2) := by decide +kernel
theorem dX4_init_15 : decode cX4_init 15 = .ok (.newarray .int, 2) := by decide +kernel
theorem dX4_init_17 : decode cX4_init 17 = .ok (.putfield 15, 3) := by decide +kernel
theorem dX4_init_20 : decode cX4_init 20 = .ok (.aload_n 0, 1) := by decide +kernel
theorem dX4_init_21 : decode cX4_init 21 = .ok (.bipush 12, 2) := by decide +kernel
theorem dX4_init_23 : decode cX4_init 23 = .ok (.newarray .int, 2) := by decide +kernel
theorem dX4_init_25 : decode cX4_init 25 = .ok (.putfield 18, 3) := by decide +kernel
theorem dX4_init_28 : decode cX4_init 28 = .ok (.aload_n 0, 1) := by decide +kernel
theorem dX4_init_29 : decode cX4_init 29 = .ok (.bipush 48, 2) := by decide +kernel
theorem dX4_init_31 : decode cX4_init 31 = .ok (.newarray .int, 2) := by decide +kernel
theorem dX4_init_33 : decode cX4_init 33 = .ok (.putfield 21, 3) := by decide +kernel
theorem dX4_init_36 : decode cX4_init 36 = .ok (.aload_n 0, 1) := by decide +kernel
theorem dX4_init_37 : decode cX4_init 37 = .ok (.bipush 48, 2) := by decide +kernel
theorem dX4_init_39 : decode cX4_init 39 = .ok (.newarray .int, 2) := by decide +kernel
theorem dX4_init_41 : decode cX4_init 41 = .ok (.putfield 24, 3) := by decide +kernel
theorem dX4_init_44 : decode cX4_init 44 = .ok (.aload_n 0, 1) := by decide +kernel
theorem dX4_init_45 : decode cX4_init 45 = .ok (.bipush 48, 2) := by decide +kernel
theorem dX4_init_47 : decode cX4_init 47 = .ok (.newarray .boolean, 2) := by decide +kernel
theorem dX4_init_49 : decode cX4_init 49 = .ok (.putfield 27, 3) := by decide +kernel
theorem dX4_init_52 : decode cX4_init 52 = .ok (.aload_n 0, 1) := by decide +kernel
theorem dX4_init_53 : decode cX4_init 53 = .ok (.iconst 0, 1) := by decide +kernel
theorem dX4_init_54 : decode cX4_init 54 = .ok (.putfield 31, 3) := by decide +kernel
theorem dX4_init_57 : decode cX4_init 57 = .ok (.aload_n 0, 1) := by decide +kernel
theorem dX4_init_58 : decode cX4_init 58 = .ok (.iconst 0, 1) := by decide +kernel
theorem dX4_init_59 : decode cX4_init 59 = .ok (.putfield 35, 3) := by decide +kernel
theorem dX4_init_62 : decode cX4_init 62 = .ok (.return_, 1) := by decide +kernel
theorem dX4_readFrom_0 : decode cX4_readFrom 0 = .ok (.aload_n 0, 1) := by decide +kernel
theorem dX4_readFrom_1 : decode cX4_readFrom 1 = .ok (.iconst 0, 1) := by decide +kernel
theorem dX4_readFrom_2 : decode cX4_readFrom 2 = .ok (.putfield 31, 3) := by decide +kernel
theorem dX4_readFrom_5 : decode cX4_readFrom 5 = .ok (.aload_n 0, 1) := by decide +kernel
theorem dX4_readFrom_6 : decode cX4_readFrom 6 = .ok (.iconst 0, 1) := by decide +kernel
theorem dX4_readFrom_7 : decode cX4_readFrom 7 = .ok (.putfield 35, 3) := by decide +kernel
theorem dX4_readFrom_10 : decode cX4_readFrom 10 = .ok (.iconst 0, 1) := by decide +kernel
theorem dX4_readFrom_11 : decode cX4_readFrom 11 = .ok (.istore_n 2, 1) := by decide +kernel
theorem dX4_readFrom_12 : decode cX4_readFrom 12 = .ok (.iload_n 2, 1) := by decide +kernel
theorem dX4_readFrom_13 : decode cX4_readFrom 13 = .ok (.bipush 12, 2) := by decide +kernel
theorem dX4_readFrom_15 : decode cX4_readFrom 15 = .ok (.if_icmp .gt 37, 3) := by decide +kernel
theorem dX4_readFrom_18 : decode cX4_readFrom 18 = .ok (.aload_n 0, 1) := by decide +kernel
theorem dX4_readFrom_19 : decode cX4_readFrom 19 = .ok (.aload_n 1, 1) := by decide +kernel
theorem dX4_readFrom_20 : decode cX4_readFrom 20 = .ok (.invokevirtual 38, 3) := by decide +kernel
theorem dX4_readFrom_23 : decode cX4_readFrom 23 = .ok (.ifCond .ne 5, 3) := by decide +kernel
theorem dX4_readFrom_26 : decode cX4_readFrom 26 = .ok (.iconst 0, 1) := by decide +kernel
theorem dX4_readFrom_27 : decode cX4_readFrom 27 = .ok (.ireturn, 1) := by decide +kernel
theorem dX4_readFrom_28 : decode cX4_readFrom 28 = .ok (.aload_n 1, 1) := by decide +kernel
theorem dX4_readFrom_29 : decode cX4_readFrom 29 = .ok (.getfield 42, 3) := by decide +kernel
theorem dX4_readFrom_32 : decode cX4_readFrom 32 = .ok (.ifCond .ne 5, 3) := by decide +kernel
theorem dX4_readFrom_35 : decode cX4_readFrom 35 = .ok (.iconst 1, 1) := by decide +kernel
theorem dX4_readFrom_36 : decode cX4_readFrom 36 = .ok (.ireturn, 1) := by decide +kernel
theorem dX4_readFrom_37 : decode cX4_readFrom 37 = .ok (.aload_n 1, 1) := by decide +kernel
theorem dX4_readFrom_38 : decode cX4_readFrom 38 = .ok (.invokevirtual 47, 3) := by decide +kernel
theorem dX4_readFrom_41 : decode cX4_readFrom 41 = .ok (.ifCond .ne 5, 3) := by decide +kernel
theorem dX4_readFrom_44 : decode cX4_readFrom 44 = .ok (.iconst 0, 1) := by decide +kernel
theorem dX4_readFrom_45 : decode cX4_readFrom 45 = .ok (.ireturn, 1) := by decide +kernel
theorem dX4_readFrom_46 : decode cX4_readFrom 46 = .ok (.iinc 2 1, 3) := by decide +kernel
theorem dX4_readFrom_49 : decode cX4_readFrom 49 = .ok (.goto (-37), 3) := by decide +kernel
theorem dX4_readFrom_52 : decode cX4_readFrom 52 = .ok (.aload_n 1, 1) := by decide +kernel
theorem dX4_readFrom_53 : decode cX4_readFrom 53 = .ok (.iconst 3, 1) := by decide +kernel
theorem dX4_readFrom_54 : decode cX4_readFrom 54 = .ok (.invokevirtual 51, 3) := by decide +kernel
theorem dX4_readFrom_57 : decode cX4_readFrom 57 = .ok (.ireturn, 1) := by decide +kernel
theorem dX4_readRule_0 : decode cX4_readRule 0 = .ok (.aload_n 1, 1) := by decide +kernel
theorem dX4_readRule_1 : decode cX4_readRule 1 = .ok (.ldc 55, 2) := by decide +kernel
theorem dX4_readRule_3 : decode cX4_readRule 3 = .ok (.invokevirtual 57, 3) := by decide +kernel
theorem dX4_readRule_6 : decode cX4_readRule 6 = .ok (.istore_n 2, 1) := by decide +kernel
theorem dX4_readRule_7 : decode cX4_readRule 7 = .ok (.iload_n 2, 1) := by decide +kernel
theorem dX4_readRule_8 : decode cX4_readRule 8 = .ok (.ifCond .ne 17, 3) := by decide +kernel
theorem dX4_readRule_11 : decode cX4_readRule 11 = .ok (.aload_n 1, 1) := by decide +kernel
theorem dX4_readRule_12 : decode cX4_readRule 12 = .ok (.invokestatic 61, 3) := by decide +kernel
theorem dX4_readRule_15 : decode cX4_readRule 15 = .ok (.iconst (-1), 1) := by decide +kernel
theorem dX4_readRule_16 : decode cX4_readRule 16 = .ok (.if_icmp .ne 9, 3) := by decide +kernel
theorem dX4_readRule_19 : decode cX4_readRule 19 = .ok (.aload_n 1, 1) := by decide +kernel
theorem dX4_readRule_20 : decode cX4_readRule 20 = .ok (.iconst 1, 1) := by decide +kernel
theorem dX4_readRule_21 : decode cX4_readRule 21 = .ok (.invokevirtual 51, 3) := by decide +kernel
theorem dX4_readRule_24 : decode cX4_readRule 24 = .ok (.ireturn, 1) := by decide +kernel
theorem dX4_readRule_25 : decode cX4_readRule 25 = .ok (.aload_n 0, 1) := by decide +kernel
theorem dX4_readRule_26 : decode cX4_readRule 26 = .ok (.getfield 31, 3) := by decide +kernel
theorem dX4_readRule_29 : decode cX4_readRule 29 = .ok (.bipush 12, 2) := by decide +kernel
theorem dX4_readRule_31 : decode cX4_readRule 31 = .ok (.if_icmp .lt 9, 3) := by decide +kernel
theorem dX4_readRule_34 : decode cX4_readRule 34 = .ok (.aload_n 1, 1) := by decide +kernel
theorem dX4_readRule_35 : decode cX4_readRule 35 = .ok (.iconst 3, 1) := by decide +kernel
theorem dX4_readRule_36 : decode cX4_readRule 36 = .ok (.invokevirtual 51, 3) := by decide +kernel
theorem dX4_readRule_39 : decode cX4_readRule 39 = .ok (.ireturn, 1) := by decide +kernel
theorem dX4_readRule_40 : decode cX4_readRule 40 = .ok (.aload_n 0, 1) := by decide +kernel
theorem dX4_readRule_41 : decode cX4_readRule 41 = .ok (.getfield 15, 3) := by decide +kernel
theorem dX4_readRule_44 : decode cX4_readRule 44 = .ok (.aload_n 0, 1) := by decide +kernel
theorem dX4_readRule_45 : decode cX4_readRule 45 = .ok (.getfield 31, 3) := by decide +kernel
theorem dX4_readRule_48 : decode cX4_readRule 48 = .ok (.aload_n 0, 1) := by decide +kernel
theorem dX4_readRule_49 : decode cX4_readRule 49 = .ok (.getfield 35, 3) := by decide +kernel
theorem dX4_readRule_52 : decode cX4_readRule 52 = .ok (.iastore, 1) := by decide +kernel
theorem dX4_readRule_53 : decode cX4_readRule 53 = .ok (.iload_n 2, 1) := by decide +kernel
theorem dX4_readRule_54 : decode cX4_readRule 54 = .ok (.ifCond .eq 13, 3) := by decide +kernel
theorem dX4_readRule_57 : decode cX4_readRule 57 = .ok (.aload_n 0, 1) := by decide +kernel
theorem dX4_readRule_58 : decode cX4_readRule 58 = .ok (.aload_n 1, 1) := by decide +kernel
theorem dX4_readRule_59 : decode cX4_readRule 59 = .ok (.invokevirtual 65, 3) := by decide +kernel
theorem dX4_readRule_62 : decode cX4_readRule 62 = .ok (.ifCond .ne 5, 3) := by decide +kernel
theorem dX4_readRule_65 : decode cX4_readRule 65 = .ok (.iconst 0, 1) := by decide +kernel
theorem dX4_readRule_66 : decode cX4_readRule 66 = .ok (.ireturn, 1) := by decide +kernel
theorem dX4_readRule_67 : decode cX4_readRule 67 = .ok (.aload_n 1, 1) := by decide +kernel
theorem dX4_readRule_68 : decode cX4_readRule 68 = .ok (.invokestatic 61, 3) := by decide +kernel
theorem dX4_readRule_71 : decode cX4_readRule 71 = .ok (.istore_n 3, 1) := by decide +kernel
theorem dX4_readRule_72 : decode cX4_readRule 72 = .ok (.iload_n 3, 1) := by decide +kernel
theorem dX4_readRule_73 : decode cX4_readRule 73 = .ok (.iconst (-1), 1) := by decide +kernel
theorem dX4_readRule_74 : decode cX4_readRule 74 = .ok (.if_icmp .ne 9, 3) := by decide +kernel
theorem dX4_readRule_77 : decode cX4_readRule 77 = .ok (.aload_n 1, 1) := by decide +kernel
theorem dX4_readRule_78 : decode cX4_readRule 78 = .ok (.iconst 1, 1) := by decide +kernel
theorem dX4_readRule_79 : decode cX4_readRule 79 = .ok (.invokevirtual 51, 3) := by decide +kernel
theorem dX4_readRule_82 : decode cX4_readRule 82 = .ok (.ireturn, 1) := by decide +kernel
theorem dX4_readRule_83 : decode cX4_readRule 83 = .ok (.aload_n 1, 1) := by decide +kernel
theorem dX4_readRule_84 : decode cX4_readRule 84 = .ok (.invokevirtual 68, 3) := by decide +kernel
theorem dX4_readRule_87 : decode cX4_readRule 87 = .ok (.aload_n 0, 1) := by decide +kernel
theorem dX4_readRule_88 : decode cX4_readRule 88 = .ok (.getfield 9, 3) := by decide +kernel
theorem dX4_readRule_91 : decode cX4_readRule 91 = .ok (.aload_n 0, 1) := by decide +kernel
theorem dX4_readRule_92 : decode cX4_readRule 92 = .ok (.getfield 31, 3) := by decide +kernel
theorem dX4_readRule_95 : decode cX4_readRule 95 = .ok (.iload_n 3, 1) := by decide +kernel
theorem dX4_readRule_96 : decode cX4_readRule 96 = .ok (.iastore, 1) := by decide +kernel
theorem dX4_readRule_97 : decode cX4_readRule 97 = .ok (.aload_n 0, 1) := by decide +kernel
theorem dX4_readRule_98 : decode cX4_readRule 98 = .ok (.getfield 18, 3) := by decide +kernel
theorem dX4_readRule_101 : decode cX4_readRule 101 = .ok (.aload_n 0, 1) := by decide +kernel
theorem dX4_readRule_102 : decode cX4_readRule 102 = .ok (.getfield 31, 3) := by decide +kernel
theorem dX4_readRule_105 : decode cX4_readRule 105 = .ok (.aload_n 0, 1) := by decide +kernel
theorem dX4_readRule_106 : decode cX4_readRule 106 = .ok (.getfield 35, 3) := by decide +kernel
theorem dX4_readRule_109 : decode cX4_readRule 109 = .ok (.aload_n 0, 1) := by decide +kernel
theorem dX4_readRule_110 : decode cX4_readRule 110 = .ok (.getfield 15, 3) := by decide +kernel
theorem dX4_readRule_113 : decode cX4_readRule 113 = .ok (.aload_n 0, 1) := by decide +kernel
theorem dX4_readRule_114 : decode cX4_readRule 114 = .ok (.getfield 31, 3) := by decide +kernel
theorem dX4_readRule_117 : decode cX4_readRule 117 = .ok (.iaload, 1) := by decide +kernel
theorem dX4_readRule_118 : decode cX4_readRule 118 = .ok (.isub, 1) := by decide +kernel
theorem dX4_readRule_119 : decode cX4_readRule 119 = .ok (.iastore, 1) := by decide +kernel
theorem dX4_readRule_120 : decode cX4_readRule 120 = .ok (.aload_n 0, 1) := by decide +kernel
theorem dX4_readRule_121 : decode cX4_readRule 121 = .ok (.dup, 1) := by decide +kernel
theorem dX4_readRule_122 : decode cX4_readRule 122 = .ok (.getfield 31, 3) := by decide +kernel
theorem dX4_readRule_125 : decode cX4_readRule 125 = .ok (.iconst 1, 1) := by decide +kernel
theorem dX4_readRule_126 : decode cX4_readRule 126 = .ok (.iadd, 1) := by decide +kernel
theorem dX4_readRule_127 : decode cX4_readRule 127 = .ok (.putfield 31, 3) := by decide +kernel
theorem dX4_readRule_130 : decode cX4_readRule 130 = .ok (.iconst 1, 1) := by decide +kernel
theorem dX4_readRule_131 : decode cX4_readRule 131 = .ok (.ireturn, 1) := by decide +kernel
theorem dX4_readTests_0 : decode cX4_readTests 0 = .ok (.iconst 1, 1) := by decide +kernel
theorem dX4_readTests_1 : decode cX4_readTests 1 = .ok (.istore_n 2, 1) := by decide +kernel
theorem dX4_readTests_2 : decode cX4_readTests 2 = .ok (.iconst 0, 1) := by decide +kernel
theorem dX4_readTests_3 : decode cX4_readTests 3 = .ok (.istore_n 3, 1) := by decide +kernel
theorem dX4_readTests_4 : decode cX4_readTests 4 = .ok (.iload_n 3, 1) := by decide +kernel
theorem dX4_readTests_5 : decode cX4_readTests 5 = .ok (.iconst 4, 1) := by decide +kernel
theorem dX4_readTests_6 : decode cX4_readTests 6 = .ok (.if_icmp .gt 35, 3) := by decide +kernel
theorem dX4_readTests_9 : decode cX4_readTests 9 = .ok (.iload_n 2, 1) := by decide +kernel
theorem dX4_readTests_10 : decode cX4_readTests 10 = .ok (.ifCond .eq 31, 3) := by decide +kernel
theorem dX4_readTests_13 : decode cX4_readTests 13 = .ok (.aload_n 1, 1) := by decide +kernel
theorem dX4_readTests_14 : decode cX4_readTests 14 = .ok (.invokevirtual 68, 3) := by decide +kernel
theorem dX4_readTests_17 : decode cX4_readTests 17 = .ok (.aload_n 0, 1) := by decide +kernel
theorem dX4_readTests_18 : decode cX4_readTests 18 = .ok (.aload_n 1, 1) := by decide +kernel
theorem dX4_readTests_19 : decode cX4_readTests 19 = .ok (.iload_n 3, 1) := by decide +kernel
theorem dX4_readTests_20 : decode cX4_readTests 20 = .ok (.invokevirtual 71, 3) := by decide +kernel
theorem dX4_readTests_23 : decode cX4_readTests 23 = .ok (.ifCond .ne 5, 3) := by decide +kernel
theorem dX4_readTests_26 : decode cX4_readTests 26 = .ok (.iconst 0, 1) := by decide +kernel
theorem dX4_readTests_27 : decode cX4_readTests 27 = .ok (.ireturn, 1) := by decide +kernel
theorem dX4_readTests_28 : decode cX4_readTests 28 = .ok (.aload_n 1, 1) := by decide +kernel
theorem dX4_readTests_29 : decode cX4_readTests 29 = .ok (.ldc 75, 2) := by decide +kernel
theorem dX4_readTests_31 : decode cX4_readTests 31 = .ok (.invokevirtual 57, 3) := by decide +kernel
theorem dX4_readTests_34 : decode cX4_readTests 34 = .ok (.istore_n 2, 1) := by decide +kernel
theorem dX4_readTests_35 : decode cX4_readTests 35 = .ok (.iinc 3 1, 3) := by decide +kernel
theorem dX4_readTests_38 : decode cX4_readTests 38 = .ok (.goto (-34), 3) := by decide +kernel
theorem dX4_readTests_41 : decode cX4_readTests 41 = .ok (.iconst 1, 1) := by decide +kernel
theorem dX4_readTests_42 : decode cX4_readTests 42 = .ok (.ireturn, 1) := by decide +kernel
theorem dX4_readTest_0 : decode cX4_readTest 0 = .ok (.aload_n 1, 1) := by decide +kernel
theorem dX4_readTest_1 : decode cX4_readTest 1 = .ok (.invokestatic 77, 3) := by decide +kernel
theorem dX4_readTest_4 : decode cX4_readTest 4 = .ok (.istore_n 3, 1) := by decide +kernel
theorem dX4_readTest_5 : decode cX4_readTest 5 = .ok (.iload_n 3, 1) := by decide +kernel
theorem dX4_readTest_6 : decode cX4_readTest 6 = .ok (.iconst (-1), 1) := by decide +kernel
theorem dX4_readTest_7 : decode cX4_readTest 7 = .ok (.if_icmp .ne 59, 3) := by decide +kernel
theorem dX4_readTest_10 : decode cX4_readTest 10 = .ok (.aload_n 1, 1) := by decide +kernel
theorem dX4_readTest_11 : decode cX4_readTest 11 = .ok (.ldc 55, 2) := by decide +kernel
theorem dX4_readTest_13 : decode cX4_readTest 13 = .ok (.invokevirtual 57, 3) := by decide +kernel
theorem dX4_readTest_16 : decode cX4_readTest 16 = .ok (.ifCond .ne 20, 3) := by decide +kernel
theorem dX4_readTest_19 : decode cX4_readTest 19 = .ok (.aload_n 1, 1) := by decide +kernel
theorem dX4_readTest_20 : decode cX4_readTest 20 = .ok (.ldc 75, 2) := by decide +kernel
theorem dX4_readTest_22 : decode cX4_readTest 22 = .ok (.invokevirtual 57, 3) := by decide +kernel
theorem dX4_readTest_25 : decode cX4_readTest 25 = .ok (.ifCond .ne 11, 3) := by decide +kernel
theorem dX4_readTest_28 : decode cX4_readTest 28 = .ok (.aload_n 1, 1) := by decide +kernel
theorem dX4_readTest_29 : decode cX4_readTest 29 = .ok (.invokestatic 61, 3) := by decide +kernel
theorem dX4_readTest_32 : decode cX4_readTest 32 = .ok (.iconst (-1), 1) := by decide +kernel
theorem dX4_readTest_33 : decode cX4_readTest 33 = .ok (.if_icmp .eq 7, 3) := by decide +kernel
theorem dX4_readTest_36 : decode cX4_readTest 36 = .ok (.iconst 1, 1) := by decide +kernel
theorem dX4_readTest_37 : decode cX4_readTest 37 = .ok (.goto 4, 3) := by decide +kernel
theorem dX4_readTest_40 : decode cX4_readTest 40 = .ok (.iconst 0, 1) := by decide +kernel
theorem dX4_readTest_41 : decode cX4_readTest 41 = .ok (.istore 4, 2) := by decide +kernel
theorem dX4_readTest_43 : decode cX4_readTest 43 = .ok (.aload_n 1, 1) := by decide +kernel
theorem dX4_readTest_44 : decode cX4_readTest 44 = .ok (.aload_n 1, 1) := by decide +kernel
theorem dX4_readTest_45 : decode cX4_readTest 45 = .ok (.getfield 42, 3) := by decide +kernel
theorem dX4_readTest_48 : decode cX4_readTest 48 = .ok (.iconst 1, 1) := by decide +kernel
theorem dX4_readTest_49 : decode cX4_readTest 49 = .ok (.if_icmp .ne 12, 3) := by decide +kernel
theorem dX4_readTest_52 : decode cX4_readTest 52 = .ok (.iload 4, 2) := by decide +kernel
theorem dX4_readTest_54 : decode cX4_readTest 54 = .ok (.ifCond .ne 7, 3) := by decide +kernel
theorem dX4_readTest_57 : decode cX4_readTest 57 = .ok (.iconst 2, 1) := by decide +kernel
theorem dX4_readTest_58 : decode cX4_readTest 58 = .ok (.goto 4, 3) := by decide +kernel
theorem dX4_readTest_61 : decode cX4_readTest 61 = .ok (.iconst 1, 1) := by decide +kernel
theorem dX4_readTest_62 : decode cX4_readTest 62 = .ok (.invokevirtual 51, 3) := by decide +kernel
theorem dX4_readTest_65 : decode cX4_readTest 65 = .ok (.ireturn, 1) := by decide +kernel
theorem dX4_readTest_66 : decode cX4_readTest 66 = .ok (.iload_n 2, 1) := by decide +kernel
theorem dX4_readTest_67 : decode cX4_readTest 67 = .ok (.iconst 4, 1) := by decide +kernel
theorem dX4_readTest_68 : decode cX4_readTest 68 = .ok (.if_icmp .ge 15, 3) := by decide +kernel
theorem dX4_readTest_71 : decode cX4_readTest 71 = .ok (.aload_n 0, 1) := by decide +kernel
theorem dX4_readTest_72 : decode cX4_readTest 72 = .ok (.getfield 35, 3) := by decide +kernel
theorem dX4_readTest_75 : decode cX4_readTest 75 = .ok (.aload_n 0, 1) := by decide +kernel
theorem dX4_readTest_76 : decode cX4_readTest 76 = .ok (.getfield 21, 3) := by decide +kernel
theorem dX4_readTest_79 : decode cX4_readTest 79 = .ok (.arraylength, 1) := by decide +kernel
theorem dX4_readTest_80 : decode cX4_readTest 80 = .ok (.if_icmp .lt 9, 3) := by decide +kernel
theorem dX4_readTest_83 : decode cX4_readTest 83 = .ok (.aload_n 1, 1) := by decide +kernel
theorem dX4_readTest_84 : decode cX4_readTest 84 = .ok (.iconst 3, 1) := by decide +kernel
theorem dX4_readTest_85 : decode cX4_readTest 85 = .ok (.invokevirtual 51, 3) := by decide +kernel
theorem dX4_readTest_88 : decode cX4_readTest 88 = .ok (.ireturn, 1) := by decide +kernel
theorem dX4_readTest_89 : decode cX4_readTest 89 = .ok (.aload_n 1, 1) := by decide +kernel
theorem dX4_readTest_90 : decode cX4_readTest 90 = .ok (.invokevirtual 68, 3) := by decide +kernel
theorem dX4_readTest_93 : decode cX4_readTest 93 = .ok (.aload_n 1, 1) := by decide +kernel
theorem dX4_readTest_94 : decode cX4_readTest 94 = .ok (.getfield 42, 3) := by decide +kernel
theorem dX4_readTest_97 : decode cX4_readTest 97 = .ok (.iconst 3, 1) := by decide +kernel
theorem dX4_readTest_98 : decode cX4_readTest 98 = .ok (.if_icmp .eq 17, 3) := by decide +kernel
theorem dX4_readTest_101 : decode cX4_readTest 101 = .ok (.aload_n 1, 1) := by decide +kernel
theorem dX4_readTest_102 : decode cX4_readTest 102 = .ok (.getfield 42, 3) := by decide +kernel
theorem dX4_readTest_105 : decode cX4_readTest 105 = .ok (.iconst 4, 1) := by decide +kernel
theorem dX4_readTest_106 : decode cX4_readTest 106 = .ok (.if_icmp .eq 9, 3) := by decide +kernel
theorem dX4_readTest_109 : decode cX4_readTest 109 = .ok (.aload_n 1, 1) := by decide +kernel
theorem dX4_readTest_110 : decode cX4_readTest 110 = .ok (.iconst 1, 1) := by decide +kernel
theorem dX4_readTest_111 : decode cX4_readTest 111 = .ok (.invokevirtual 51, 3) := by decide +kernel
theorem dX4_readTest_114 : decode cX4_readTest 114 = .ok (.ireturn, 1) := by decide +kernel
theorem dX4_readTest_115 : decode cX4_readTest 115 = .ok (.aload_n 0, 1) := by decide +kernel
theorem dX4_readTest_116 : decode cX4_readTest 116 = .ok (.getfield 21, 3) := by decide +kernel
theorem dX4_readTest_119 : decode cX4_readTest 119 = .ok (.aload_n 0, 1) := by decide +kernel
theorem dX4_readTest_120 : decode cX4_readTest 120 = .ok (.getfield 35, 3) := by decide +kernel
theorem dX4_readTest_123 : decode cX4_readTest 123 = .ok (.iload_n 3, 1) := by decide +kernel
theorem dX4_readTest_124 : decode cX4_readTest 124 = .ok (.iastore, 1) := by decide +kernel
theorem dX4_readTest_125 : decode cX4_readTest 125 = .ok (.aload_n 0, 1) := by decide +kernel
theorem dX4_readTest_126 : decode cX4_readTest 126 = .ok (.getfield 27, 3) := by decide +kernel
theorem dX4_readTest_129 : decode cX4_readTest 129 = .ok (.aload_n 0, 1) := by decide +kernel
theorem dX4_readTest_130 : decode cX4_readTest 130 = .ok (.getfield 35, 3) := by decide +kernel
theorem dX4_readTest_133 : decode cX4_readTest 133 = .ok (.aload_n 1, 1) := by decide +kernel
theorem dX4_readTest_134 : decode cX4_readTest 134 = .ok (.getfield 42, 3) := by decide +kernel
theorem dX4_readTest_137 : decode cX4_readTest 137 = .ok (.iconst 4, 1) := by decide +kernel
theorem dX4_readTest_138 : decode cX4_readTest 138 = .ok (.if_icmp .ne 7, 3) := by decide +kernel
theorem dX4_readTest_141 : decode cX4_readTest 141 = .ok (.iconst 1, 1) := by decide +kernel
theorem dX4_readTest_142 : decode cX4_readTest 142 = .ok (.goto 4, 3) := by decide +kernel
theorem dX4_readTest_145 : decode cX4_readTest 145 = .ok (.iconst 0, 1) := by decide +kernel
theorem dX4_readTest_146 : decode cX4_readTest 146 = .ok (.bastore, 1) := by decide +kernel
theorem dX4_readTest_147 : decode cX4_readTest 147 = .ok (.aload_n 1, 1) := by decide +kernel
theorem dX4_readTest_148 : decode cX4_readTest 148 = .ok (.invokevirtual 68, 3) := by decide +kernel
theorem dX4_readTest_151 : decode cX4_readTest 151 = .ok (.aload_n 1, 1) := by decide +kernel
theorem dX4_readTest_152 : decode cX4_readTest 152 = .ok (.getfield 42, 3) := by decide +kernel
theorem dX4_readTest_155 : decode cX4_readTest 155 = .ok (.iconst 2, 1) := by decide +kernel
theorem dX4_readTest_156 : decode cX4_readTest 156 = .ok (.if_icmp .eq 9, 3) := by decide +kernel
theorem dX4_readTest_159 : decode cX4_readTest 159 = .ok (.aload_n 1, 1) := by decide +kernel
theorem dX4_readTest_160 : decode cX4_readTest 160 = .ok (.iconst 1, 1) := by decide +kernel
theorem dX4_readTest_161 : decode cX4_readTest 161 = .ok (.invokevirtual 51, 3) := by decide +kernel
theorem dX4_readTest_164 : decode cX4_readTest 164 = .ok (.ireturn, 1) := by decide +kernel
theorem dX4_readTest_165 : decode cX4_readTest 165 = .ok (.aload_n 0, 1) := by decide +kernel
theorem dX4_readTest_166 : decode cX4_readTest 166 = .ok (.getfield 24, 3) := by decide +kernel
theorem dX4_readTest_169 : decode cX4_readTest 169 = .ok (.aload_n 0, 1) := by decide +kernel
theorem dX4_readTest_170 : decode cX4_readTest 170 = .ok (.getfield 35, 3) := by decide +kernel
theorem dX4_readTest_173 : decode cX4_readTest 173 = .ok (.aload_n 1, 1) := by decide +kernel
theorem dX4_readTest_174 : decode cX4_readTest 174 = .ok (.getfield 80, 3) := by decide +kernel
theorem dX4_readTest_177 : decode cX4_readTest 177 = .ok (.iastore, 1) := by decide +kernel
theorem dX4_readTest_178 : decode cX4_readTest 178 = .ok (.aload_n 0, 1) := by decide +kernel
theorem dX4_readTest_179 : decode cX4_readTest 179 = .ok (.dup, 1) := by decide +kernel
theorem dX4_readTest_180 : decode cX4_readTest 180 = .ok (.getfield 35, 3) := by decide +kernel
theorem dX4_readTest_183 : decode cX4_readTest 183 = .ok (.iconst 1, 1) := by decide +kernel
theorem dX4_readTest_184 : decode cX4_readTest 184 = .ok (.iadd, 1) := by decide +kernel
theorem dX4_readTest_185 : decode cX4_readTest 185 = .ok (.putfield 35, 3) := by decide +kernel
theorem dX4_readTest_188 : decode cX4_readTest 188 = .ok (.aload_n 1, 1) := by decide +kernel
theorem dX4_readTest_189 : decode cX4_readTest 189 = .ok (.invokevirtual 68, 3) := by decide +kernel
theorem dX4_readTest_192 : decode cX4_readTest 192 = .ok (.iconst 1, 1) := by decide +kernel
theorem dX4_readTest_193 : decode cX4_readTest 193 = .ok (.ireturn, 1) := by decide +kernel
theorem dX4_actOf_0 : decode cX4_actOf 0 = .ok (.aload_n 0, 1) := by decide +kernel
theorem dX4_actOf_1 : decode cX4_actOf 1 = .ok (.ldc 83, 2) := by decide +kernel
theorem dX4_actOf_3 : decode cX4_actOf 3 = .ok (.invokevirtual 57, 3) := by decide +kernel
theorem dX4_actOf_6 : decode cX4_actOf 6 = .ok (.ifCond .eq 5, 3) := by decide +kernel
theorem dX4_actOf_9 : decode cX4_actOf 9 = .ok (.iconst 0, 1) := by decide +kernel
theorem dX4_actOf_10 : decode cX4_actOf 10 = .ok (.ireturn, 1) := by decide +kernel
theorem dX4_actOf_11 : decode cX4_actOf 11 = .ok (.aload_n 0, 1) := by decide +kernel
theorem dX4_actOf_12 : decode cX4_actOf 12 = .ok (.ldc 85, 2) := by decide +kernel
theorem dX4_actOf_14 : decode cX4_actOf 14 = .ok (.invokevirtual 57, 3) := by decide +kernel
theorem dX4_actOf_17 : decode cX4_actOf 17 = .ok (.ifCond .eq 5, 3) := by decide +kernel
theorem dX4_actOf_20 : decode cX4_actOf 20 = .ok (.iconst 1, 1) := by decide +kernel
theorem dX4_actOf_21 : decode cX4_actOf 21 = .ok (.ireturn, 1) := by decide +kernel
theorem dX4_actOf_22 : decode cX4_actOf 22 = .ok (.aload_n 0, 1) := by decide +kernel
theorem dX4_actOf_23 : decode cX4_actOf 23 = .ok (.ldc 87, 2) := by decide +kernel
theorem dX4_actOf_25 : decode cX4_actOf 25 = .ok (.invokevirtual 57, 3) := by decide +kernel
theorem dX4_actOf_28 : decode cX4_actOf 28 = .ok (.ifCond .eq 5, 3) := by decide +kernel
theorem dX4_actOf_31 : decode cX4_actOf 31 = .ok (.iconst 2, 1) := by decide +kernel
theorem dX4_actOf_32 : decode cX4_actOf 32 = .ok (.ireturn, 1) := by decide +kernel
theorem dX4_actOf_33 : decode cX4_actOf 33 = .ok (.aload_n 0, 1) := by decide +kernel
theorem dX4_actOf_34 : decode cX4_actOf 34 = .ok (.ldc 89, 2) := by decide +kernel
theorem dX4_actOf_36 : decode cX4_actOf 36 = .ok (.invokevirtual 57, 3) := by decide +kernel
theorem dX4_actOf_39 : decode cX4_actOf 39 = .ok (.ifCond .eq 7, 3) := by decide +kernel
theorem dX4_actOf_42 : decode cX4_actOf 42 = .ok (.iconst 3, 1) := by decide +kernel
theorem dX4_actOf_43 : decode cX4_actOf 43 = .ok (.goto 4, 3) := by decide +kernel
theorem dX4_actOf_46 : decode cX4_actOf 46 = .ok (.iconst (-1), 1) := by decide +kernel
theorem dX4_actOf_47 : decode cX4_actOf 47 = .ok (.ireturn, 1) := by decide +kernel
theorem dX4_nameOf_0 : decode cX4_nameOf 0 = .ok (.aload_n 0, 1) := by decide +kernel
theorem dX4_nameOf_1 : decode cX4_nameOf 1 = .ok (.ldc 91, 2) := by decide +kernel
theorem dX4_nameOf_3 : decode cX4_nameOf 3 = .ok (.invokevirtual 57, 3) := by decide +kernel
theorem dX4_nameOf_6 : decode cX4_nameOf 6 = .ok (.ifCond .eq 5, 3) := by decide +kernel
theorem dX4_nameOf_9 : decode cX4_nameOf 9 = .ok (.iconst 0, 1) := by decide +kernel
theorem dX4_nameOf_10 : decode cX4_nameOf 10 = .ok (.ireturn, 1) := by decide +kernel
theorem dX4_nameOf_11 : decode cX4_nameOf 11 = .ok (.aload_n 0, 1) := by decide +kernel
theorem dX4_nameOf_12 : decode cX4_nameOf 12 = .ok (.ldc 95, 2) := by decide +kernel
theorem dX4_nameOf_14 : decode cX4_nameOf 14 = .ok (.invokevirtual 57, 3) := by decide +kernel
theorem dX4_nameOf_17 : decode cX4_nameOf 17 = .ok (.ifCond .eq 5, 3) := by decide +kernel
theorem dX4_nameOf_20 : decode cX4_nameOf 20 = .ok (.iconst 1, 1) := by decide +kernel
theorem dX4_nameOf_21 : decode cX4_nameOf 21 = .ok (.ireturn, 1) := by decide +kernel
theorem dX4_nameOf_22 : decode cX4_nameOf 22 = .ok (.aload_n 0, 1) := by decide +kernel
theorem dX4_nameOf_23 : decode cX4_nameOf 23 = .ok (.ldc 97, 2) := by decide +kernel
theorem dX4_nameOf_25 : decode cX4_nameOf 25 = .ok (.invokevirtual 57, 3) := by decide +kernel
theorem dX4_nameOf_28 : decode cX4_nameOf 28 = .ok (.ifCond .eq 5, 3) := by decide +kernel
theorem dX4_nameOf_31 : decode cX4_nameOf 31 = .ok (.iconst 2, 1) := by decide +kernel
theorem dX4_nameOf_32 : decode cX4_nameOf 32 = .ok (.ireturn, 1) := by decide +kernel
theorem dX4_nameOf_33 : decode cX4_nameOf 33 = .ok (.aload_n 0, 1) := by decide +kernel
theorem dX4_nameOf_34 : decode cX4_nameOf 34 = .ok (.ldc 99, 2) := by decide +kernel
theorem dX4_nameOf_36 : decode cX4_nameOf 36 = .ok (.invokevirtual 57, 3) := by decide +kernel
theorem dX4_nameOf_39 : decode cX4_nameOf 39 = .ok (.ifCond .eq 5, 3) := by decide +kernel
theorem dX4_nameOf_42 : decode cX4_nameOf 42 = .ok (.iconst 3, 1) := by decide +kernel
theorem dX4_nameOf_43 : decode cX4_nameOf 43 = .ok (.ireturn, 1) := by decide +kernel
theorem dX4_nameOf_44 : decode cX4_nameOf 44 = .ok (.aload_n 0, 1) := by decide +kernel
theorem dX4_nameOf_45 : decode cX4_nameOf 45 = .ok (.ldc 101, 2) := by decide +kernel
theorem dX4_nameOf_47 : decode cX4_nameOf 47 = .ok (.invokevirtual 57, 3) := by decide +kernel
theorem dX4_nameOf_50 : decode cX4_nameOf 50 = .ok (.ifCond .eq 5, 3) := by decide +kernel
theorem dX4_nameOf_53 : decode cX4_nameOf 53 = .ok (.iconst 4, 1) := by decide +kernel
theorem dX4_nameOf_54 : decode cX4_nameOf 54 = .ok (.ireturn, 1) := by decide +kernel
theorem dX4_nameOf_55 : decode cX4_nameOf 55 = .ok (.aload_n 0, 1) := by decide +kernel
theorem dX4_nameOf_56 : decode cX4_nameOf 56 = .ok (.ldc 103, 2) := by decide +kernel
theorem dX4_nameOf_58 : decode cX4_nameOf 58 = .ok (.invokevirtual 57, 3) := by decide +kernel
theorem dX4_nameOf_61 : decode cX4_nameOf 61 = .ok (.ifCond .eq 5, 3) := by decide +kernel
theorem dX4_nameOf_64 : decode cX4_nameOf 64 = .ok (.iconst 5, 1) := by decide +kernel
theorem dX4_nameOf_65 : decode cX4_nameOf 65 = .ok (.ireturn, 1) := by decide +kernel
theorem dX4_nameOf_66 : decode cX4_nameOf 66 = .ok (.aload_n 0, 1) := by decide +kernel
theorem dX4_nameOf_67 : decode cX4_nameOf 67 = .ok (.ldc 105, 2) := by decide +kernel
theorem dX4_nameOf_69 : decode cX4_nameOf 69 = .ok (.invokevirtual 57, 3) := by decide +kernel
theorem dX4_nameOf_72 : decode cX4_nameOf 72 = .ok (.ifCond .eq 6, 3) := by decide +kernel
theorem dX4_nameOf_75 : decode cX4_nameOf 75 = .ok (.bipush 6, 2) := by decide +kernel
theorem dX4_nameOf_77 : decode cX4_nameOf 77 = .ok (.ireturn, 1) := by decide +kernel
theorem dX4_nameOf_78 : decode cX4_nameOf 78 = .ok (.aload_n 0, 1) := by decide +kernel
theorem dX4_nameOf_79 : decode cX4_nameOf 79 = .ok (.ldc 107, 2) := by decide +kernel
theorem dX4_nameOf_81 : decode cX4_nameOf 81 = .ok (.invokevirtual 57, 3) := by decide +kernel
theorem dX4_nameOf_84 : decode cX4_nameOf 84 = .ok (.ifCond .eq 6, 3) := by decide +kernel
theorem dX4_nameOf_87 : decode cX4_nameOf 87 = .ok (.bipush 7, 2) := by decide +kernel
theorem dX4_nameOf_89 : decode cX4_nameOf 89 = .ok (.ireturn, 1) := by decide +kernel
theorem dX4_nameOf_90 : decode cX4_nameOf 90 = .ok (.aload_n 0, 1) := by decide +kernel
theorem dX4_nameOf_91 : decode cX4_nameOf 91 = .ok (.ldc 109, 2) := by decide +kernel
theorem dX4_nameOf_93 : decode cX4_nameOf 93 = .ok (.invokevirtual 57, 3) := by decide +kernel
theorem dX4_nameOf_96 : decode cX4_nameOf 96 = .ok (.ifCond .eq 6, 3) := by decide +kernel
theorem dX4_nameOf_99 : decode cX4_nameOf 99 = .ok (.bipush 8, 2) := by decide +kernel
theorem dX4_nameOf_101 : decode cX4_nameOf 101 = .ok (.ireturn, 1) := by decide +kernel
theorem dX4_nameOf_102 : decode cX4_nameOf 102 = .ok (.aload_n 0, 1) := by decide +kernel
theorem dX4_nameOf_103 : decode cX4_nameOf 103 = .ok (.ldc 111, 2) := by decide +kernel
theorem dX4_nameOf_105 : decode cX4_nameOf 105 = .ok (.invokevirtual 57, 3) := by decide +kernel
theorem dX4_nameOf_108 : decode cX4_nameOf 108 = .ok (.ifCond .eq 6, 3) := by decide +kernel
theorem dX4_nameOf_111 : decode cX4_nameOf 111 = .ok (.bipush 9, 2) := by decide +kernel
theorem dX4_nameOf_113 : decode cX4_nameOf 113 = .ok (.ireturn, 1) := by decide +kernel
theorem dX4_nameOf_114 : decode cX4_nameOf 114 = .ok (.aload_n 0, 1) := by decide +kernel
theorem dX4_nameOf_115 : decode cX4_nameOf 115 = .ok (.ldc 113, 2) := by decide +kernel
theorem dX4_nameOf_117 : decode cX4_nameOf 117 = .ok (.invokevirtual 57, 3) := by decide +kernel
theorem dX4_nameOf_120 : decode cX4_nameOf 120 = .ok (.ifCond .eq 8, 3) := by decide +kernel
theorem dX4_nameOf_123 : decode cX4_nameOf 123 = .ok (.bipush 10, 2) := by decide +kernel
theorem dX4_nameOf_125 : decode cX4_nameOf 125 = .ok (.goto 4, 3) := by decide +kernel
theorem dX4_nameOf_128 : decode cX4_nameOf 128 = .ok (.iconst (-1), 1) := by decide +kernel
theorem dX4_nameOf_129 : decode cX4_nameOf 129 = .ok (.ireturn, 1) := by decide +kernel
theorem dX4_ruleFor_0 : decode cX4_ruleFor 0 = .ok (.iconst 0, 1) := by decide +kernel
theorem dX4_ruleFor_1 : decode cX4_ruleFor 1 = .ok (.istore 4, 2) := by decide +kernel
theorem dX4_ruleFor_3 : decode cX4_ruleFor 3 = .ok (.iload 4, 2) := by decide +kernel
theorem dX4_ruleFor_5 : decode cX4_ruleFor 5 = .ok (.aload_n 0, 1) := by decide +kernel
theorem dX4_ruleFor_6 : decode cX4_ruleFor 6 = .ok (.getfield 31, 3) := by decide +kernel
theorem dX4_ruleFor_9 : decode cX4_ruleFor 9 = .ok (.if_icmp .ge 24, 3) := by decide +kernel
theorem dX4_ruleFor_12 : decode cX4_ruleFor 12 = .ok (.aload_n 0, 1) := by decide +kernel
theorem dX4_ruleFor_13 : decode cX4_ruleFor 13 = .ok (.iload 4, 2) := by decide +kernel
theorem dX4_ruleFor_15 : decode cX4_ruleFor 15 = .ok (.aload_n 1, 1) := by decide +kernel
theorem dX4_ruleFor_16 : decode cX4_ruleFor 16 = .ok (.aload_n 2, 1) := by decide +kernel
theorem dX4_ruleFor_17 : decode cX4_ruleFor 17 = .ok (.iload_n 3, 1) := by decide +kernel
theorem dX4_ruleFor_18 : decode cX4_ruleFor 18 = .ok (.invokevirtual 115, 3) := by decide +kernel
theorem dX4_ruleFor_21 : decode cX4_ruleFor 21 = .ok (.ifCond .eq 6, 3) := by decide +kernel
theorem dX4_ruleFor_24 : decode cX4_ruleFor 24 = .ok (.iload 4, 2) := by decide +kernel
theorem dX4_ruleFor_26 : decode cX4_ruleFor 26 = .ok (.ireturn, 1) := by decide +kernel
theorem dX4_ruleFor_27 : decode cX4_ruleFor 27 = .ok (.iinc 4 1, 3) := by decide +kernel
theorem dX4_ruleFor_30 : decode cX4_ruleFor 30 = .ok (.goto (-27), 3) := by decide +kernel
theorem dX4_ruleFor_33 : decode cX4_ruleFor 33 = .ok (.bipush 100, 2) := by decide +kernel
theorem dX4_ruleFor_35 : decode cX4_ruleFor 35 = .ok (.ireturn, 1) := by decide +kernel
theorem dX4_holds_0 : decode cX4_holds 0 = .ok (.aload_n 0, 1) := by decide +kernel
theorem dX4_holds_1 : decode cX4_holds 1 = .ok (.getfield 15, 3) := by decide +kernel
theorem dX4_holds_4 : decode cX4_holds 4 = .ok (.iload_n 1, 1) := by decide +kernel
theorem dX4_holds_5 : decode cX4_holds 5 = .ok (.iaload, 1) := by decide +kernel
theorem dX4_holds_6 : decode cX4_holds 6 = .ok (.aload_n 0, 1) := by decide +kernel
theorem dX4_holds_7 : decode cX4_holds 7 = .ok (.getfield 18, 3) := by decide +kernel
theorem dX4_holds_10 : decode cX4_holds 10 = .ok (.iload_n 1, 1) := by decide +kernel
theorem dX4_holds_11 : decode cX4_holds 11 = .ok (.iaload, 1) := by decide +kernel
theorem dX4_holds_12 : decode cX4_holds 12 = .ok (.iadd, 1) := by decide +kernel
theorem dX4_holds_13 : decode cX4_holds 13 = .ok (.istore 5, 2) := by decide +kernel
theorem dX4_holds_15 : decode cX4_holds 15 = .ok (.aload_n 0, 1) := by decide +kernel
theorem dX4_holds_16 : decode cX4_holds 16 = .ok (.getfield 15, 3) := by decide +kernel
theorem dX4_holds_19 : decode cX4_holds 19 = .ok (.iload_n 1, 1) := by decide +kernel
theorem dX4_holds_20 : decode cX4_holds 20 = .ok (.iaload, 1) := by decide +kernel
theorem dX4_holds_21 : decode cX4_holds 21 = .ok (.istore 6, 2) := by decide +kernel
theorem dX4_holds_23 : decode cX4_holds 23 = .ok (.iload 6, 2) := by decide +kernel
theorem dX4_holds_25 : decode cX4_holds 25 = .ok (.iload 5, 2) := by decide +kernel
theorem dX4_holds_27 : decode cX4_holds 27 = .ok (.if_icmp .ge 64, 3) := by decide +kernel
theorem dX4_holds_30 : decode cX4_holds 30 = .ok (.aload_n 0, 1) := by decide +kernel
theorem dX4_holds_31 : decode cX4_holds 31 = .ok (.getfield 21, 3) := by decide +kernel
theorem dX4_holds_34 : decode cX4_holds 34 = .ok (.iload 6, 2) := by decide +kernel
theorem dX4_holds_36 : decode cX4_holds 36 = .ok (.iaload, 1) := by decide +kernel
theorem dX4_holds_37 : decode cX4_holds 37 = .ok (.aload_n 2, 1) := by decide +kernel
theorem dX4_holds_38 : decode cX4_holds 38 = .ok (.aload_n 3, 1) := by decide +kernel
theorem dX4_holds_39 : decode cX4_holds 39 = .ok (.iload 4, 2) := by decide +kernel
theorem dX4_holds_41 : decode cX4_holds 41 = .ok (.invokestatic 119, 3) := by decide +kernel
theorem dX4_holds_44 : decode cX4_holds 44 = .ok (.istore 7, 2) := by decide +kernel
theorem dX4_holds_46 : decode cX4_holds 46 = .ok (.aload_n 0, 1) := by decide +kernel
theorem dX4_holds_47 : decode cX4_holds 47 = .ok (.getfield 27, 3) := by decide +kernel
theorem dX4_holds_50 : decode cX4_holds 50 = .ok (.iload 6, 2) := by decide +kernel
theorem dX4_holds_52 : decode cX4_holds 52 = .ok (.baload, 1) := by decide +kernel
theorem dX4_holds_53 : decode cX4_holds 53 = .ok (.ifCond .eq 18, 3) := by decide +kernel
theorem dX4_holds_56 : decode cX4_holds 56 = .ok (.iload 7, 2) := by decide +kernel
theorem dX4_holds_58 : decode cX4_holds 58 = .ok (.aload_n 0, 1) := by decide +kernel
theorem dX4_holds_59 : decode cX4_holds 59 = .ok (.getfield 24, 3) := by decide +kernel
theorem dX4_holds_62 : decode cX4_holds 62 = .ok (.iload 6, 2) := by decide +kernel
theorem dX4_holds_64 : decode cX4_holds 64 = .ok (.iaload, 1) := by decide +kernel
theorem dX4_holds_65 : decode cX4_holds 65 = .ok (.if_icmp .gt 20, 3) := by decide +kernel
theorem dX4_holds_68 : decode cX4_holds 68 = .ok (.goto 15, 3) := by decide +kernel
theorem dX4_holds_71 : decode cX4_holds 71 = .ok (.iload 7, 2) := by decide +kernel
theorem dX4_holds_73 : decode cX4_holds 73 = .ok (.aload_n 0, 1) := by decide +kernel
theorem dX4_holds_74 : decode cX4_holds 74 = .ok (.getfield 24, 3) := by decide +kernel
theorem dX4_holds_77 : decode cX4_holds 77 = .ok (.iload 6, 2) := by decide +kernel
theorem dX4_holds_79 : decode cX4_holds 79 = .ok (.iaload, 1) := by decide +kernel
theorem dX4_holds_80 : decode cX4_holds 80 = .ok (.if_icmp .lt 5, 3) := by decide +kernel
theorem dX4_holds_83 : decode cX4_holds 83 = .ok (.iconst 0, 1) := by decide +kernel
theorem dX4_holds_84 : decode cX4_holds 84 = .ok (.ireturn, 1) := by decide +kernel
theorem dX4_holds_85 : decode cX4_holds 85 = .ok (.iinc 6 1, 3) := by decide +kernel
theorem dX4_holds_88 : decode cX4_holds 88 = .ok (.goto (-65), 3) := by decide +kernel
theorem dX4_holds_91 : decode cX4_holds 91 = .ok (.iconst 1, 1) := by decide +kernel
theorem dX4_holds_92 : decode cX4_holds 92 = .ok (.ireturn, 1) := by decide +kernel
theorem dX4_actOfRule_0 : decode cX4_actOfRule 0 = .ok (.iload_n 1, 1) := by decide +kernel
theorem dX4_actOfRule_1 : decode cX4_actOfRule 1 = .ok (.ifCond .lt 20, 3) := by decide +kernel
theorem dX4_actOfRule_4 : decode cX4_actOfRule 4 = .ok (.iload_n 1, 1) := by decide +kernel
theorem dX4_actOfRule_5 : decode cX4_actOfRule 5 = .ok (.aload_n 0, 1) := by decide +kernel
theorem dX4_actOfRule_6 : decode cX4_actOfRule 6 = .ok (.getfield 31, 3) := by decide +kernel
theorem dX4_actOfRule_9 : decode cX4_actOfRule 9 = .ok (.if_icmp .ge 12, 3) := by decide +kernel
theorem dX4_actOfRule_12 : decode cX4_actOfRule 12 = .ok (.aload_n 0, 1) := by decide +kernel
theorem dX4_actOfRule_13 : decode cX4_actOfRule 13 = .ok (.getfield 9, 3) := by decide +kernel
theorem dX4_actOfRule_16 : decode cX4_actOfRule 16 = .ok (.iload_n 1, 1) := by decide +kernel
theorem dX4_actOfRule_17 : decode cX4_actOfRule 17 = .ok (.iaload, 1) := by decide +kernel
theorem dX4_actOfRule_18 : decode cX4_actOfRule 18 = .ok (.goto 4, 3) := by decide +kernel
theorem dX4_actOfRule_21 : decode cX4_actOfRule 21 = .ok (.iconst 0, 1) := by decide +kernel
theorem dX4_actOfRule_22 : decode cX4_actOfRule 22 = .ok (.ireturn, 1) := by decide +kernel
theorem dX5_init_0 : decode cX5_init 0 = .ok (.aload_n 0, 1) := by decide +kernel
theorem dX5_init_1 : decode cX5_init 1 = .ok (.invokespecial 3, 3) := by decide +kernel
theorem dX5_init_4 : decode cX5_init 4 = .ok (.aload_n 0, 1) := by decide +kernel
theorem dX5_init_5 : decode cX5_init 5 = .ok (.new 9, 3) := by decide +kernel
theorem dX5_init_8 : decode cX5_init 8 = .ok (.dup, 1) := by decide +kernel
theorem dX5_init_9 : decode cX5_init 9 = .ok (.invokespecial 11, 3) := by decide +kernel
theorem dX5_init_12 : decode cX5_init 12 = .ok (.putfield 12, 3) := by decide +kernel
theorem dX5_init_15 : decode cX5_init 15 = .ok (.aload_n 0, 1) := by decide +kernel
theorem dX5_init_16 : decode cX5_init 16 = .ok (.bipush 6, 2) := by decide +kernel
theorem dX5_init_18 : decode cX5_init 18 = .ok (.anewarray 18, 3) := by decide +kernel
theorem dX5_init_21 : decode cX5_init 21 = .ok (.putfield 20, 3) := by decide +kernel
theorem dX5_init_24 : decode cX5_init 24 = .ok (.aload_n 0, 1) := by decide +kernel
theorem dX5_init_25 : decode cX5_init 25 = .ok (.iconst 0, 1) := by decide +kernel
theorem dX5_init_26 : decode cX5_init 26 = .ok (.putfield 24, 3) := by decide +kernel
theorem dX5_init_29 : decode cX5_init 29 = .ok (.aload_n 0, 1) := by decide +kernel
theorem dX5_init_30 : decode cX5_init 30 = .ok (.iconst 0, 1) := by decide +kernel
theorem dX5_init_31 : decode cX5_init 31 = .ok (.putfield 28, 3) := by decide +kernel
theorem dX5_init_34 : decode cX5_init 34 = .ok (.aload_n 0, 1) := by decide +kernel
theorem dX5_init_35 : decode cX5_init 35 = .ok (.bipush 6, 2) := by decide +kernel
theorem dX5_init_37 : decode cX5_init 37 = .ok (.putfield 31, 3) := by decide +kernel
theorem dX5_init_40 : decode cX5_init 40 = .ok (.iconst 0, 1) := by decide +kernel
theorem dX5_init_41 : decode cX5_init 41 = .ok (.istore_n 1, 1) := by decide +kernel
theorem dX5_init_42 : decode cX5_init 42 = .ok (.iload_n 1, 1) := by decide +kernel
theorem dX5_init_43 : decode cX5_init 43 = .ok (.bipush 6, 2) := by decide +kernel
theorem dX5_init_45 : decode cX5_init 45 = .ok (.if_icmp .ge 22, 3) := by decide +kernel
theorem dX5_init_48 : decode cX5_init 48 = .ok (.aload_n 0, 1) := by decide +kernel
theorem dX5_init_49 : decode cX5_init 49 = .ok (.getfield 20, 3) := by decide +kernel
theorem dX5_init_52 : decode cX5_init 52 = .ok (.iload_n 1, 1) := by decide +kernel
theorem dX5_init_53 : decode cX5_init 53 = .ok (.new 18, 3) := by decide +kernel
theorem dX5_init_56 : decode cX5_init 56 = .ok (.dup, 1) := by decide +kernel
theorem dX5_init_57 : decode cX5_init 57 = .ok (.invokespecial 34, 3) := by decide +kernel
theorem dX5_init_60 : decode cX5_init 60 = .ok (.aastore, 1) := by decide +kernel
theorem dX5_init_61 : decode cX5_init 61 = .ok (.iinc 1 1, 3) := by decide +kernel
theorem dX5_init_64 : decode cX5_init 64 = .ok (.goto (-22), 3) := by decide +kernel
theorem dX5_init_67 : decode cX5_init 67 = .ok (.return_, 1) := by decide +kernel
theorem dX5_copyFrom_0 : decode cX5_copyFrom 0 = .ok (.aload_n 0, 1) := by decide +kernel
theorem dX5_copyFrom_1 : decode cX5_copyFrom 1 = .ok (.getfield 12, 3) := by decide +kernel
theorem dX5_copyFrom_4 : decode cX5_copyFrom 4 = .ok (.aload_n 1, 1) := by decide +kernel
theorem dX5_copyFrom_5 : decode cX5_copyFrom 5 = .ok (.getfield 12, 3) := by decide +kernel
theorem dX5_copyFrom_8 : decode cX5_copyFrom 8 = .ok (.invokevirtual 35, 3) := by decide +kernel
theorem dX5_copyFrom_11 : decode cX5_copyFrom 11 = .ok (.iconst 0, 1) := by decide +kernel
theorem dX5_copyFrom_12 : decode cX5_copyFrom 12 = .ok (.istore_n 2, 1) := by decide +kernel
theorem dX5_copyFrom_13 : decode cX5_copyFrom 13 = .ok (.iload_n 2, 1) := by decide +kernel
theorem dX5_copyFrom_14 : decode cX5_copyFrom 14 = .ok (.aload_n 1, 1) := by decide +kernel
theorem dX5_copyFrom_15 : decode cX5_copyFrom 15 = .ok (.getfield 24, 3) := by decide +kernel
theorem dX5_copyFrom_18 : decode cX5_copyFrom 18 = .ok (.if_icmp .ge 24, 3) := by decide +kernel
theorem dX5_copyFrom_21 : decode cX5_copyFrom 21 = .ok (.aload_n 0, 1) := by decide +kernel
theorem dX5_copyFrom_22 : decode cX5_copyFrom 22 = .ok (.getfield 20, 3) := by decide +kernel
theorem dX5_copyFrom_25 : decode cX5_copyFrom 25 = .ok (.iload_n 2, 1) := by decide +kernel
theorem dX5_copyFrom_26 : decode cX5_copyFrom 26 = .ok (.aaload, 1) := by decide +kernel
theorem dX5_copyFrom_27 : decode cX5_copyFrom 27 = .ok (.aload_n 1, 1) := by decide +kernel
theorem dX5_copyFrom_28 : decode cX5_copyFrom 28 = .ok (.getfield 20, 3) := by decide +kernel
theorem dX5_copyFrom_31 : decode cX5_copyFrom 31 = .ok (.iload_n 2, 1) := by decide +kernel
theorem dX5_copyFrom_32 : decode cX5_copyFrom 32 = .ok (.aaload, 1) := by decide +kernel
theorem dX5_copyFrom_33 : decode cX5_copyFrom 33 = .ok (.invokevirtual 39, 3) := by decide +kernel
theorem dX5_copyFrom_36 : decode cX5_copyFrom 36 = .ok (.iinc 2 1, 3) := by decide +kernel
theorem dX5_copyFrom_39 : decode cX5_copyFrom 39 = .ok (.goto (-26), 3) := by decide +kernel
theorem dX5_copyFrom_42 : decode cX5_copyFrom 42 = .ok (.aload_n 0, 1) := by decide +kernel
theorem dX5_copyFrom_43 : decode cX5_copyFrom 43 = .ok (.aload_n 1, 1) := by decide +kernel
theorem dX5_copyFrom_44 : decode cX5_copyFrom 44 = .ok (.getfield 24, 3) := by decide +kernel
theorem dX5_copyFrom_47 : decode cX5_copyFrom 47 = .ok (.putfield 24, 3) := by decide +kernel
theorem dX5_copyFrom_50 : decode cX5_copyFrom 50 = .ok (.aload_n 0, 1) := by decide +kernel
theorem dX5_copyFrom_51 : decode cX5_copyFrom 51 = .ok (.aload_n 1, 1) := by decide +kernel
theorem dX5_copyFrom_52 : decode cX5_copyFrom 52 = .ok (.getfield 28, 3) := by decide +kernel
theorem dX5_copyFrom_55 : decode cX5_copyFrom 55 = .ok (.putfield 28, 3) := by decide +kernel
theorem dX5_copyFrom_58 : decode cX5_copyFrom 58 = .ok (.aload_n 0, 1) := by decide +kernel
theorem dX5_copyFrom_59 : decode cX5_copyFrom 59 = .ok (.aload_n 1, 1) := by decide +kernel
theorem dX5_copyFrom_60 : decode cX5_copyFrom 60 = .ok (.getfield 31, 3) := by decide +kernel
theorem dX5_copyFrom_63 : decode cX5_copyFrom 63 = .ok (.putfield 31, 3) := by decide +kernel
theorem dX5_copyFrom_66 : decode cX5_copyFrom 66 = .ok (.return_, 1) := by decide +kernel
theorem dX5_canStep_0 : decode cX5_canStep 0 = .ok (.aload_n 0, 1) := by decide +kernel
theorem dX5_canStep_1 : decode cX5_canStep 1 = .ok (.getfield 28, 3) := by decide +kernel
theorem dX5_canStep_4 : decode cX5_canStep 4 = .ok (.sipush 2000, 3) := by decide +kernel
theorem dX5_canStep_7 : decode cX5_canStep 7 = .ok (.if_icmp .lt 5, 3) := by decide +kernel
theorem dX5_canStep_10 : decode cX5_canStep 10 = .ok (.iconst 0, 1) := by decide +kernel
theorem dX5_canStep_11 : decode cX5_canStep 11 = .ok (.ireturn, 1) := by decide +kernel
theorem dX5_canStep_12 : decode cX5_canStep 12 = .ok (.iconst 0, 1) := by decide +kernel
theorem dX5_canStep_13 : decode cX5_canStep 13 = .ok (.istore_n 1, 1) := by decide +kernel
theorem dX5_canStep_14 : decode cX5_canStep 14 = .ok (.iload_n 1, 1) := by decide +kernel
theorem dX5_canStep_15 : decode cX5_canStep 15 = .ok (.aload_n 0, 1) := by decide +kernel
theorem dX5_canStep_16 : decode cX5_canStep 16 = .ok (.getfield 24, 3) := by decide +kernel
theorem dX5_canStep_19 : decode cX5_canStep 19 = .ok (.if_icmp .ge 23, 3) := by decide +kernel
theorem dX5_canStep_22 : decode cX5_canStep 22 = .ok (.aload_n 0, 1) := by decide +kernel
theorem dX5_canStep_23 : decode cX5_canStep 23 = .ok (.getfield 20, 3) := by decide +kernel
theorem dX5_canStep_26 : decode cX5_canStep 26 = .ok (.iload_n 1, 1) := by decide +kernel
theorem dX5_canStep_27 : decode cX5_canStep 27 = .ok (.aaload, 1) := by decide +kernel
theorem dX5_canStep_28 : decode cX5_canStep 28 = .ok (.invokevirtual 42, 3) := by decide +kernel
theorem dX5_canStep_31 : decode cX5_canStep 31 = .ok (.ifCond .ne 5, 3) := by decide +kernel
theorem dX5_canStep_34 : decode cX5_canStep 34 = .ok (.iconst 1, 1) := by decide +kernel
theorem dX5_canStep_35 : decode cX5_canStep 35 = .ok (.ireturn, 1) := by decide +kernel
theorem dX5_canStep_36 : decode cX5_canStep 36 = .ok (.iinc 1 1, 3) := by decide +kernel
theorem dX5_canStep_39 : decode cX5_canStep 39 = .ok (.goto (-25), 3) := by decide +kernel
theorem dX5_canStep_42 : decode cX5_canStep 42 = .ok (.iconst 0, 1) := by decide +kernel
theorem dX5_canStep_43 : decode cX5_canStep 43 = .ok (.ireturn, 1) := by decide +kernel
theorem dX6_init_0 : decode cX6_init 0 = .ok (.aload_n 0, 1) := by decide +kernel
theorem dX6_init_1 : decode cX6_init 1 = .ok (.invokespecial 3, 3) := by decide +kernel
theorem dX6_init_4 : decode cX6_init 4 = .ok (.aload_n 0, 1) := by decide +kernel
theorem dX6_init_5 : decode cX6_init 5 = .ok (.iconst 0, 1) := by decide +kernel
theorem dX6_init_6 : decode cX6_init 6 = .ok (.newarray .int, 2) := by decide +kernel
theorem dX6_init_8 : decode cX6_init 8 = .ok (.putfield 9, 3) := by decide +kernel
theorem dX6_init_11 : decode cX6_init 11 = .ok (.return_, 1) := by decide +kernel
theorem dX6_tell_0 : decode cX6_tell 0 = .ok (.iload 4, 2) := by decide +kernel
theorem dX6_tell_2 : decode cX6_tell 2 = .ok (.iconst 1, 1) := by decide +kernel
theorem dX6_tell_3 : decode cX6_tell 3 = .ok (.if_icmp .lt 10, 3) := by decide +kernel
theorem dX6_tell_6 : decode cX6_tell 6 = .ok (.iload_n 3, 1) := by decide +kernel
theorem dX6_tell_7 : decode cX6_tell 7 = .ok (.iload 4, 2) := by decide +kernel
theorem dX6_tell_9 : decode cX6_tell 9 = .ok (.irem, 1) := by decide +kernel
theorem dX6_tell_10 : decode cX6_tell 10 = .ok (.ifCond .eq 4, 3) := by decide +kernel
theorem dX6_tell_13 : decode cX6_tell 13 = .ok (.return_, 1) := by decide +kernel
theorem dX6_tell_14 : decode cX6_tell 14 = .ok (.sipush 1999, 3) := by decide +kernel
theorem dX6_tell_17 : decode cX6_tell 17 = .ok (.iload 4, 2) := by decide +kernel
theorem dX6_tell_19 : decode cX6_tell 19 = .ok (.idiv, 1) := by decide +kernel
theorem dX6_tell_20 : decode cX6_tell 20 = .ok (.iconst 1, 1) := by decide +kernel
theorem dX6_tell_21 : decode cX6_tell 21 = .ok (.iadd, 1) := by decide +kernel
theorem dX6_tell_22 : decode cX6_tell 22 = .ok (.istore 5, 2) := by decide +kernel
theorem dX6_tell_24 : decode cX6_tell 24 = .ok (.aload_n 0, 1) := by decide +kernel
theorem dX6_tell_25 : decode cX6_tell 25 = .ok (.getfield 9, 3) := by decide +kernel
theorem dX6_tell_28 : decode cX6_tell 28 = .ok (.arraylength, 1) := by decide +kernel
theorem dX6_tell_29 : decode cX6_tell 29 = .ok (.iload 5, 2) := by decide +kernel
theorem dX6_tell_31 : decode cX6_tell 31 = .ok (.if_icmp .ge 16, 3) := by decide +kernel
theorem dX6_tell_34 : decode cX6_tell 34 = .ok (.aload_n 0, 1) := by decide +kernel
theorem dX6_tell_35 : decode cX6_tell 35 = .ok (.aload_n 0, 1) := by decide +kernel
theorem dX6_tell_36 : decode cX6_tell 36 = .ok (.getfield 9, 3) := by decide +kernel
theorem dX6_tell_39 : decode cX6_tell 39 = .ok (.iload 5, 2) := by decide +kernel
theorem dX6_tell_41 : decode cX6_tell 41 = .ok (.invokestatic 15, 3) := by decide +kernel
theorem dX6_tell_44 : decode cX6_tell 44 = .ok (.putfield 9, 3) := by decide +kernel
theorem dX6_tell_47 : decode cX6_tell 47 = .ok (.aload_n 1, 1) := by decide +kernel
theorem dX6_tell_48 : decode cX6_tell 48 = .ok (.getfield 21, 3) := by decide +kernel
theorem dX6_tell_51 : decode cX6_tell 51 = .ok (.ifCond .eq 18, 3) := by decide +kernel
theorem dX6_tell_54 : decode cX6_tell 54 = .ok (.aload_n 1, 1) := by decide +kernel
theorem dX6_tell_55 : decode cX6_tell 55 = .ok (.getfield 27, 3) := by decide +kernel
theorem dX6_tell_58 : decode cX6_tell 58 = .ok (.iload_n 3, 1) := by decide +kernel
theorem dX6_tell_59 : decode cX6_tell 59 = .ok (.invokevirtual 31, 3) := by decide +kernel
theorem dX6_tell_62 : decode cX6_tell 62 = .ok (.ifCond .ne 7, 3) := by decide +kernel
theorem dX6_tell_65 : decode cX6_tell 65 = .ok (.iconst 1, 1) := by decide +kernel
theorem dX6_tell_66 : decode cX6_tell 66 = .ok (.goto 4, 3) := by decide +kernel
theorem dX6_tell_69 : decode cX6_tell 69 = .ok (.iconst 0, 1) := by decide +kernel
theorem dX6_tell_70 : decode cX6_tell 70 = .ok (.istore 6, 2) := by decide +kernel
theorem dX6_tell_72 : decode cX6_tell 72 = .ok (.aload_n 0, 1) := by decide +kernel
theorem dX6_tell_73 : decode cX6_tell 73 = .ok (.getfield 9, 3) := by decide +kernel
theorem dX6_tell_76 : decode cX6_tell 76 = .ok (.iload_n 3, 1) := by decide +kernel
theorem dX6_tell_77 : decode cX6_tell 77 = .ok (.iload 4, 2) := by decide +kernel
theorem dX6_tell_79 : decode cX6_tell 79 = .ok (.idiv, 1) := by decide +kernel
theorem dX6_tell_80 : decode cX6_tell 80 = .ok (.iload 6, 2) := by decide +kernel
theorem dX6_tell_82 : decode cX6_tell 82 = .ok (.ifCond .eq 11, 3) := by decide +kernel
theorem dX6_tell_85 : decode cX6_tell 85 = .ok (.aload_n 1, 1) := by decide +kernel
theorem dX6_tell_86 : decode cX6_tell 86 = .ok (.aload_n 2, 1) := by decide +kernel
theorem dX6_tell_87 : decode cX6_tell 87 = .ok (.invokevirtual 37, 3) := by decide +kernel
theorem dX6_tell_90 : decode cX6_tell 90 = .ok (.goto 4, 3) := by decide +kernel
theorem dX6_tell_93 : decode cX6_tell 93 = .ok (.iconst (-1), 1) := by decide +kernel
theorem dX6_tell_94 : decode cX6_tell 94 = .ok (.iastore, 1) := by decide +kernel
theorem dX6_tell_95 : decode cX6_tell 95 = .ok (.return_, 1) := by decide +kernel
theorem dX6_past_0 : decode cX6_past 0 = .ok (.aload_n 0, 1) := by decide +kernel
theorem dX6_past_1 : decode cX6_past 1 = .ok (.getfield 9, 3) := by decide +kernel
theorem dX6_past_4 : decode cX6_past 4 = .ok (.arraylength, 1) := by decide +kernel
theorem dX6_past_5 : decode cX6_past 5 = .ok (.iload_n 2, 1) := by decide +kernel
theorem dX6_past_6 : decode cX6_past 6 = .ok (.iload_n 1, 1) := by decide +kernel
theorem dX6_past_7 : decode cX6_past 7 = .ok (.iadd, 1) := by decide +kernel
theorem dX6_past_8 : decode cX6_past 8 = .ok (.iconst 1, 1) := by decide +kernel
theorem dX6_past_9 : decode cX6_past 9 = .ok (.isub, 1) := by decide +kernel
theorem dX6_past_10 : decode cX6_past 10 = .ok (.iload_n 1, 1) := by decide +kernel
theorem dX6_past_11 : decode cX6_past 11 = .ok (.invokestatic 41, 3) := by decide +kernel
theorem dX6_past_14 : decode cX6_past 14 = .ok (.invokestatic 45, 3) := by decide +kernel
theorem dX6_past_17 : decode cX6_past 17 = .ok (.ireturn, 1) := by decide +kernel
theorem dX6_howMany_0 : decode cX6_howMany 0 = .ok (.iconst 0, 1) := by decide +kernel
theorem dX6_howMany_1 : decode cX6_howMany 1 = .ok (.istore_n 3, 1) := by decide +kernel
theorem dX6_howMany_2 : decode cX6_howMany 2 = .ok (.aload_n 0, 1) := by decide +kernel
theorem dX6_howMany_3 : decode cX6_howMany 3 = .ok (.iload_n 1, 1) := by decide +kernel
theorem dX6_howMany_4 : decode cX6_howMany 4 = .ok (.iload_n 2, 1) := by decide +kernel
theorem dX6_howMany_5 : decode cX6_howMany 5 = .ok (.invokevirtual 50, 3) := by decide +kernel
theorem dX6_howMany_8 : decode cX6_howMany 8 = .ok (.istore 4, 2) := by decide +kernel
theorem dX6_howMany_10 : decode cX6_howMany 10 = .ok (.iconst 0, 1) := by decide +kernel
theorem dX6_howMany_11 : decode cX6_howMany 11 = .ok (.istore 5, 2) := by decide +kernel
theorem dX6_howMany_13 : decode cX6_howMany 13 = .ok (.iload 5, 2) := by decide +kernel
theorem dX6_howMany_15 : decode cX6_howMany 15 = .ok (.iload 4, 2) := by decide +kernel
theorem dX6_howMany_17 : decode cX6_howMany 17 = .ok (.if_icmp .ge 23, 3) := by decide +kernel
theorem dX6_howMany_20 : decode cX6_howMany 20 = .ok (.aload_n 0, 1) := by decide +kernel
theorem dX6_howMany_21 : decode cX6_howMany 21 = .ok (.getfield 9, 3) := by decide +kernel
theorem dX6_howMany_24 : decode cX6_howMany 24 = .ok (.iload 5, 2) := by decide +kernel
theorem dX6_howMany_26 : decode cX6_howMany 26 = .ok (.iaload, 1) := by decide +kernel
theorem dX6_howMany_27 : decode cX6_howMany 27 = .ok (.iconst (-1), 1) := by decide +kernel
theorem dX6_howMany_28 : decode cX6_howMany 28 = .ok (.if_icmp .eq 6, 3) := by decide +kernel
theorem dX6_howMany_31 : decode cX6_howMany 31 = .ok (.iinc 3 1, 3) := by decide +kernel
theorem dX6_howMany_34 : decode cX6_howMany 34 = .ok (.iinc 5 1, 3) := by decide +kernel
theorem dX6_howMany_37 : decode cX6_howMany 37 = .ok (.goto (-24), 3) := by decide +kernel
theorem dX6_howMany_40 : decode cX6_howMany 40 = .ok (.iload_n 3, 1) := by decide +kernel
theorem dX6_howMany_41 : decode cX6_howMany 41 = .ok (.ireturn, 1) := by decide +kernel
theorem dX6_latest_0 : decode cX6_latest 0 = .ok (.aload_n 0, 1) := by decide +kernel
theorem dX6_latest_1 : decode cX6_latest 1 = .ok (.iload_n 1, 1) := by decide +kernel
theorem dX6_latest_2 : decode cX6_latest 2 = .ok (.iload_n 2, 1) := by decide +kernel
theorem dX6_latest_3 : decode cX6_latest 3 = .ok (.iconst 1, 1) := by decide +kernel
theorem dX6_latest_4 : decode cX6_latest 4 = .ok (.iadd, 1) := by decide +kernel
theorem dX6_latest_5 : decode cX6_latest 5 = .ok (.invokevirtual 50, 3) := by decide +kernel
theorem dX6_latest_8 : decode cX6_latest 8 = .ok (.iconst 1, 1) := by decide +kernel
theorem dX6_latest_9 : decode cX6_latest 9 = .ok (.isub, 1) := by decide +kernel
theorem dX6_latest_10 : decode cX6_latest 10 = .ok (.istore_n 3, 1) := by decide +kernel
theorem dX6_latest_11 : decode cX6_latest 11 = .ok (.iload_n 3, 1) := by decide +kernel
theorem dX6_latest_12 : decode cX6_latest 12 = .ok (.ifCond .lt 21, 3) := by decide +kernel
theorem dX6_latest_15 : decode cX6_latest 15 = .ok (.aload_n 0, 1) := by decide +kernel
theorem dX6_latest_16 : decode cX6_latest 16 = .ok (.getfield 9, 3) := by decide +kernel
theorem dX6_latest_19 : decode cX6_latest 19 = .ok (.iload_n 3, 1) := by decide +kernel
theorem dX6_latest_20 : decode cX6_latest 20 = .ok (.iaload, 1) := by decide +kernel
theorem dX6_latest_21 : decode cX6_latest 21 = .ok (.iconst (-1), 1) := by decide +kernel
theorem dX6_latest_22 : decode cX6_latest 22 = .ok (.if_icmp .eq 5, 3) := by decide +kernel
theorem dX6_latest_25 : decode cX6_latest 25 = .ok (.iload_n 3, 1) := by decide +kernel
theorem dX6_latest_26 : decode cX6_latest 26 = .ok (.ireturn, 1) := by decide +kernel
theorem dX6_latest_27 : decode cX6_latest 27 = .ok (.iinc 3 (-1), 3) := by decide +kernel
theorem dX6_latest_30 : decode cX6_latest 30 = .ok (.goto (-19), 3) := by decide +kernel
theorem dX6_latest_33 : decode cX6_latest 33 = .ok (.iconst (-1), 1) := by decide +kernel
theorem dX6_latest_34 : decode cX6_latest 34 = .ok (.ireturn, 1) := by decide +kernel
theorem dX6_next_0 : decode cX6_next 0 = .ok (.aload_n 0, 1) := by decide +kernel
theorem dX6_next_1 : decode cX6_next 1 = .ok (.iload_n 1, 1) := by decide +kernel
theorem dX6_next_2 : decode cX6_next 2 = .ok (.iload_n 3, 1) := by decide +kernel
theorem dX6_next_3 : decode cX6_next 3 = .ok (.invokevirtual 50, 3) := by decide +kernel
theorem dX6_next_6 : decode cX6_next 6 = .ok (.istore 4, 2) := by decide +kernel
theorem dX6_next_8 : decode cX6_next 8 = .ok (.iload_n 2, 1) := by decide +kernel
theorem dX6_next_9 : decode cX6_next 9 = .ok (.iload_n 1, 1) := by decide +kernel
theorem dX6_next_10 : decode cX6_next 10 = .ok (.invokestatic 41, 3) := by decide +kernel
theorem dX6_next_13 : decode cX6_next 13 = .ok (.iconst 1, 1) := by decide +kernel
theorem dX6_next_14 : decode cX6_next 14 = .ok (.iadd, 1) := by decide +kernel
theorem dX6_next_15 : decode cX6_next 15 = .ok (.istore 5, 2) := by decide +kernel
theorem dX6_next_17 : decode cX6_next 17 = .ok (.iload 5, 2) := by decide +kernel
theorem dX6_next_19 : decode cX6_next 19 = .ok (.iload 4, 2) := by decide +kernel
theorem dX6_next_21 : decode cX6_next 21 = .ok (.if_icmp .ge 23, 3) := by decide +kernel
theorem dX6_next_24 : decode cX6_next 24 = .ok (.aload_n 0, 1) := by decide +kernel
theorem dX6_next_25 : decode cX6_next 25 = .ok (.getfield 9, 3) := by decide +kernel
theorem dX6_next_28 : decode cX6_next 28 = .ok (.iload 5, 2) := by decide +kernel
theorem dX6_next_30 : decode cX6_next 30 = .ok (.iaload, 1) := by decide +kernel
theorem dX6_next_31 : decode cX6_next 31 = .ok (.iconst (-1), 1) := by decide +kernel
theorem dX6_next_32 : decode cX6_next 32 = .ok (.if_icmp .eq 6, 3) := by decide +kernel
theorem dX6_next_35 : decode cX6_next 35 = .ok (.iload 5, 2) := by decide +kernel
theorem dX6_next_37 : decode cX6_next 37 = .ok (.ireturn, 1) := by decide +kernel
theorem dX6_next_38 : decode cX6_next 38 = .ok (.iinc 5 1, 3) := by decide +kernel
theorem dX6_next_41 : decode cX6_next 41 = .ok (.goto (-24), 3) := by decide +kernel
theorem dX6_next_44 : decode cX6_next 44 = .ok (.iconst (-1), 1) := by decide +kernel
theorem dX6_next_45 : decode cX6_next 45 = .ok (.ireturn, 1) := by decide +kernel
theorem dX7_init_0 : decode cX7_init 0 = .ok (.aload_n 0, 1) := by decide +kernel
theorem dX7_init_1 : decode cX7_init 1 = .ok (.invokespecial 3, 3) := by decide +kernel
theorem dX7_init_4 : decode cX7_init 4 = .ok (.aload_n 0, 1) := by decide +kernel
theorem dX7_init_5 : decode cX7_init 5 = .ok (.sipush 400, 3) := by decide +kernel
theorem dX7_init_8 : decode cX7_init 8 = .ok (.newarray .byte, 2) := by decide +kernel
theorem dX7_init_10 : decode cX7_init 10 = .ok (.putfield 9, 3) := by decide +kernel
theorem dX7_init_13 : decode cX7_init 13 = .ok (.aload_n 0, 1) := by decide +kernel
theorem dX7_init_14 : decode cX7_init 14 = .ok (.iconst 0, 1) := by decide +kernel
theorem dX7_init_15 : decode cX7_init 15 = .ok (.putfield 15, 3) := by decide +kernel
theorem dX7_init_18 : decode cX7_init 18 = .ok (.aload_n 0, 1) := by decide +kernel
theorem dX7_init_19 : decode cX7_init 19 = .ok (.iconst 0, 1) := by decide +kernel
theorem dX7_init_20 : decode cX7_init 20 = .ok (.putfield 19, 3) := by decide +kernel
theorem dX7_init_23 : decode cX7_init 23 = .ok (.aload_n 0, 1) := by decide +kernel
theorem dX7_init_24 : decode cX7_init 24 = .ok (.iconst 0, 1) := by decide +kernel
theorem dX7_init_25 : decode cX7_init 25 = .ok (.putfield 22, 3) := by decide +kernel
theorem dX7_init_28 : decode cX7_init 28 = .ok (.aload_n 0, 1) := by decide +kernel
theorem dX7_init_29 : decode cX7_init 29 = .ok (.iconst 0, 1) := by decide +kernel
theorem dX7_init_30 : decode cX7_init 30 = .ok (.putfield 25, 3) := by decide +kernel
theorem dX7_init_33 : decode cX7_init 33 = .ok (.aload_n 0, 1) := by decide +kernel
theorem dX7_init_34 : decode cX7_init 34 = .ok (.iconst 0, 1) := by decide +kernel
theorem dX7_init_35 : decode cX7_init 35 = .ok (.putfield 28, 3) := by decide +kernel
theorem dX7_init_38 : decode cX7_init 38 = .ok (.aload_n 0, 1) := by decide +kernel
theorem dX7_init_39 : decode cX7_init 39 = .ok (.iconst 0, 1) := by decide +kernel
theorem dX7_init_40 : decode cX7_init 40 = .ok (.putfield 31, 3) := by decide +kernel
theorem dX7_init_43 : decode cX7_init 43 = .ok (.aload_n 0, 1) := by decide +kernel
theorem dX7_init_44 : decode cX7_init 44 = .ok (.iconst 0, 1) := by decide +kernel
theorem dX7_init_45 : decode cX7_init 45 = .ok (.putfield 34, 3) := by decide +kernel
theorem dX7_init_48 : decode cX7_init 48 = .ok (.aload_n 0, 1) := by decide +kernel
theorem dX7_init_49 : decode cX7_init 49 = .ok (.iconst (-1), 1) := by decide +kernel
theorem dX7_init_50 : decode cX7_init 50 = .ok (.putfield 37, 3) := by decide +kernel
theorem dX7_init_53 : decode cX7_init 53 = .ok (.return_, 1) := by decide +kernel
theorem dX7_put_0 : decode cX7_put 0 = .ok (.bipush 24, 2) := by decide +kernel
theorem dX7_put_2 : decode cX7_put 2 = .ok (.istore_n 2, 1) := by decide +kernel
theorem dX7_put_3 : decode cX7_put 3 = .ok (.iload_n 2, 1) := by decide +kernel
theorem dX7_put_4 : decode cX7_put 4 = .ok (.ifCond .lt 42, 3) := by decide +kernel
theorem dX7_put_7 : decode cX7_put 7 = .ok (.aload_n 0, 1) := by decide +kernel
theorem dX7_put_8 : decode cX7_put 8 = .ok (.getfield 15, 3) := by decide +kernel
theorem dX7_put_11 : decode cX7_put 11 = .ok (.sipush 400, 3) := by decide +kernel
theorem dX7_put_14 : decode cX7_put 14 = .ok (.if_icmp .ge 26, 3) := by decide +kernel
theorem dX7_put_17 : decode cX7_put 17 = .ok (.aload_n 0, 1) := by decide +kernel
theorem dX7_put_18 : decode cX7_put 18 = .ok (.getfield 9, 3) := by decide +kernel
theorem dX7_put_21 : decode cX7_put 21 = .ok (.aload_n 0, 1) := by decide +kernel
theorem dX7_put_22 : decode cX7_put 22 = .ok (.getfield 15, 3) := by decide +kernel
theorem dX7_put_25 : decode cX7_put 25 = .ok (.iload_n 1, 1) := by decide +kernel
theorem dX7_put_26 : decode cX7_put 26 = .ok (.iload_n 2, 1) := by decide +kernel
theorem dX7_put_27 : decode cX7_put 27 = .ok (.ishr, 1) := by decide +kernel
theorem dX7_put_28 : decode cX7_put 28 = .ok (.i2b, 1) := by decide +kernel
theorem dX7_put_29 : decode cX7_put 29 = .ok (.bastore, 1) := by decide +kernel
theorem dX7_put_30 : decode cX7_put 30 = .ok (.aload_n 0, 1) := by decide +kernel
theorem dX7_put_31 : decode cX7_put 31 = .ok (.dup, 1) := by decide +kernel
theorem dX7_put_32 : decode cX7_put 32 = .ok (.getfield 15, 3) := by decide +kernel
theorem dX7_put_35 : decode cX7_put 35 = .ok (.iconst 1, 1) := by decide +kernel
theorem dX7_put_36 : decode cX7_put 36 = .ok (.iadd, 1) := by decide +kernel
theorem dX7_put_37 : decode cX7_put 37 = .ok (.putfield 15, 3) := by decide +kernel
theorem dX7_put_40 : decode cX7_put 40 = .ok (.iinc 2 (-8), 3) := by decide +kernel
theorem dX7_put_43 : decode cX7_put 43 = .ok (.goto (-40), 3) := by decide +kernel
theorem dX7_put_46 : decode cX7_put 46 = .ok (.return_, 1) := by decide +kernel
theorem dX7_open_0 : decode cX7_open 0 = .ok (.aload_n 0, 1) := by decide +kernel
theorem dX7_open_1 : decode cX7_open 1 = .ok (.iload_n 1, 1) := by decide +kernel
theorem dX7_open_2 : decode cX7_open 2 = .ok (.sipush 400, 3) := by decide +kernel
theorem dX7_open_5 : decode cX7_open 5 = .ok (.invokestatic 40, 3) := by decide +kernel
theorem dX7_open_8 : decode cX7_open 8 = .ok (.putfield 19, 3) := by decide +kernel
theorem dX7_open_11 : decode cX7_open 11 = .ok (.aload_n 0, 1) := by decide +kernel
theorem dX7_open_12 : decode cX7_open 12 = .ok (.iconst 0, 1) := by decide +kernel
theorem dX7_open_13 : decode cX7_open 13 = .ok (.putfield 15, 3) := by decide +kernel
theorem dX7_open_16 : decode cX7_open 16 = .ok (.aload_n 0, 1) := by decide +kernel
theorem dX7_open_17 : decode cX7_open 17 = .ok (.iconst 0, 1) := by decide +kernel
theorem dX7_open_18 : decode cX7_open 18 = .ok (.putfield 22, 3) := by decide +kernel
theorem dX7_open_21 : decode cX7_open 21 = .ok (.aload_n 0, 1) := by decide +kernel
theorem dX7_open_22 : decode cX7_open 22 = .ok (.iconst 0, 1) := by decide +kernel
theorem dX7_open_23 : decode cX7_open 23 = .ok (.putfield 34, 3) := by decide +kernel
theorem dX7_open_26 : decode cX7_open 26 = .ok (.aload_n 0, 1) := by decide +kernel
theorem dX7_open_27 : decode cX7_open 27 = .ok (.iconst (-1), 1) := by decide +kernel
theorem dX7_open_28 : decode cX7_open 28 = .ok (.putfield 37, 3) := by decide +kernel
theorem dX7_open_31 : decode cX7_open 31 = .ok (.aload_n 0, 1) := by decide +kernel
theorem dX7_open_32 : decode cX7_open 32 = .ok (.invokevirtual 46, 3) := by decide +kernel
theorem dX7_open_35 : decode cX7_open 35 = .ok (.return_, 1) := by decide +kernel
theorem dX7_fail_0 : decode cX7_fail 0 = .ok (.aload_n 0, 1) := by decide +kernel
theorem dX7_fail_1 : decode cX7_fail 1 = .ok (.iload_n 1, 1) := by decide +kernel
theorem dX7_fail_2 : decode cX7_fail 2 = .ok (.putfield 34, 3) := by decide +kernel
theorem dX7_fail_5 : decode cX7_fail 5 = .ok (.aload_n 0, 1) := by decide +kernel
theorem dX7_fail_6 : decode cX7_fail 6 = .ok (.aload_n 0, 1) := by decide +kernel
theorem dX7_fail_7 : decode cX7_fail 7 = .ok (.getfield 28, 3) := by decide +kernel
theorem dX7_fail_10 : decode cX7_fail 10 = .ok (.putfield 37, 3) := by decide +kernel
theorem dX7_fail_13 : decode cX7_fail 13 = .ok (.iconst 0, 1) := by decide +kernel
theorem dX7_fail_14 : decode cX7_fail 14 = .ok (.ireturn, 1) := by decide +kernel
theorem dX7_advance_0 : decode cX7_advance 0 = .ok (.aload_n 0, 1) := by decide +kernel
theorem dX7_advance_1 : decode cX7_advance 1 = .ok (.getfield 22, 3) := by decide +kernel
theorem dX7_advance_4 : decode cX7_advance 4 = .ok (.aload_n 0, 1) := by decide +kernel
theorem dX7_advance_5 : decode cX7_advance 5 = .ok (.getfield 19, 3) := by decide +kernel
theorem dX7_advance_8 : decode cX7_advance 8 = .ok (.if_icmp .ge 33, 3) := by decide +kernel
theorem dX7_advance_11 : decode cX7_advance 11 = .ok (.aload_n 0, 1) := by decide +kernel
theorem dX7_advance_12 : decode cX7_advance 12 = .ok (.getfield 9, 3) := by decide +kernel
theorem dX7_advance_15 : decode cX7_advance 15 = .ok (.aload_n 0, 1) := by decide +kernel
theorem dX7_advance_16 : decode cX7_advance 16 = .ok (.getfield 22, 3) := by decide +kernel
theorem dX7_advance_19 : decode cX7_advance 19 = .ok (.baload, 1) := by decide +kernel
theorem dX7_advance_20 : decode cX7_advance 20 = .ok (.invokestatic 49, 3) := by decide +kernel
theorem dX7_advance_23 : decode cX7_advance 23 = .ok (.bipush 7, 2) := by decide +kernel
theorem dX7_advance_25 : decode cX7_advance 25 = .ok (.if_icmp .ne 16, 3) := by decide +kernel
theorem dX7_advance_28 : decode cX7_advance 28 = .ok (.aload_n 0, 1) := by decide +kernel
theorem dX7_advance_29 : decode cX7_advance 29 = .ok (.dup, 1) := by decide +kernel
theorem dX7_advance_30 : decode cX7_advance 30 = .ok (.getfield 22, 3) := by decide +kernel
theorem dX7_advance_33 : decode cX7_advance 33 = .ok (.iconst 1, 1) := by decide +kernel
theorem dX7_advance_34 : decode cX7_advance 34 = .ok (.iadd, 1) := by decide +kernel
theorem dX7_advance_35 : decode cX7_advance 35 = .ok (.putfield 22, 3) := by decide +kernel
theorem dX7_advance_38 : decode cX7_advance 38 = .ok (.goto (-38), 3) := by decide +kernel
theorem dX7_advance_41 : decode cX7_advance 41 = .ok (.aload_n 0, 1) := by decide +kernel
theorem dX7_advance_42 : decode cX7_advance 42 = .ok (.aload_n 0, 1) := by decide +kernel
theorem dX7_advance_43 : decode cX7_advance 43 = .ok (.getfield 22, 3) := by decide +kernel
theorem dX7_advance_46 : decode cX7_advance 46 = .ok (.putfield 28, 3) := by decide +kernel
theorem dX7_advance_49 : decode cX7_advance 49 = .ok (.aload_n 0, 1) := by decide +kernel
theorem dX7_advance_50 : decode cX7_advance 50 = .ok (.iconst 0, 1) := by decide +kernel
theorem dX7_advance_51 : decode cX7_advance 51 = .ok (.putfield 31, 3) := by decide +kernel
theorem dX7_advance_54 : decode cX7_advance 54 = .ok (.aload_n 0, 1) := by decide +kernel
theorem dX7_advance_55 : decode cX7_advance 55 = .ok (.aload_n 0, 1) := by decide +kernel
theorem dX7_advance_56 : decode cX7_advance 56 = .ok (.getfield 22, 3) := by decide +kernel
theorem dX7_advance_59 : decode cX7_advance 59 = .ok (.aload_n 0, 1) := by decide +kernel
theorem dX7_advance_60 : decode cX7_advance 60 = .ok (.getfield 19, 3) := by decide +kernel
theorem dX7_advance_63 : decode cX7_advance 63 = .ok (.if_icmp .ge 18, 3) := by decide +kernel
theorem dX7_advance_66 : decode cX7_advance 66 = .ok (.aload_n 0, 1) := by decide +kernel
theorem dX7_advance_67 : decode cX7_advance 67 = .ok (.getfield 9, 3) := by decide +kernel
theorem dX7_advance_70 : decode cX7_advance 70 = .ok (.aload_n 0, 1) := by decide +kernel
theorem dX7_advance_71 : decode cX7_advance 71 = .ok (.getfield 22, 3) := by decide +kernel
theorem dX7_advance_74 : decode cX7_advance 74 = .ok (.baload, 1) := by decide +kernel
theorem dX7_advance_75 : decode cX7_advance 75 = .ok (.invokestatic 49, 3) := by decide +kernel
theorem dX7_advance_78 : decode cX7_advance 78 = .ok (.goto 4, 3) := by decide +kernel
theorem dX7_advance_81 : decode cX7_advance 81 = .ok (.iconst 0, 1) := by decide +kernel
theorem dX7_advance_82 : decode cX7_advance 82 = .ok (.putfield 25, 3) := by decide +kernel
theorem dX7_advance_85 : decode cX7_advance 85 = .ok (.aload_n 0, 1) := by decide +kernel
theorem dX7_advance_86 : decode cX7_advance 86 = .ok (.getfield 25, 3) := by decide +kernel
theorem dX7_advance_89 : decode cX7_advance 89 = .ok (.iconst 1, 1) := by decide +kernel
theorem dX7_advance_90 : decode cX7_advance 90 = .ok (.if_icmp .eq 11, 3) := by decide +kernel
theorem dX7_advance_93 : decode cX7_advance 93 = .ok (.aload_n 0, 1) := by decide +kernel
theorem dX7_advance_94 : decode cX7_advance 94 = .ok (.getfield 25, 3) := by decide +kernel
theorem dX7_advance_97 : decode cX7_advance 97 = .ok (.iconst 2, 1) := by decide +kernel
theorem dX7_advance_98 : decode cX7_advance 98 = .ok (.if_icmp .ne 112, 3) := by decide +kernel
theorem dX7_advance_101 : decode cX7_advance 101 = .ok (.aload_n 0, 1) := by decide +kernel
theorem dX7_advance_102 : decode cX7_advance 102 = .ok (.getfield 22, 3) := by decide +kernel
theorem dX7_advance_105 : decode cX7_advance 105 = .ok (.aload_n 0, 1) := by decide +kernel
theorem dX7_advance_106 : decode cX7_advance 106 = .ok (.getfield 19, 3) := by decide +kernel
theorem dX7_advance_109 : decode cX7_advance 109 = .ok (.if_icmp .ge 59, 3) := by decide +kernel
theorem dX7_advance_112 : decode cX7_advance 112 = .ok (.aload_n 0, 1) := by decide +kernel
theorem dX7_advance_113 : decode cX7_advance 113 = .ok (.getfield 9, 3) := by decide +kernel
theorem dX7_advance_116 : decode cX7_advance 116 = .ok (.aload_n 0, 1) := by decide +kernel
theorem dX7_advance_117 : decode cX7_advance 117 = .ok (.getfield 22, 3) := by decide +kernel
theorem dX7_advance_120 : decode cX7_advance 120 = .ok (.baload, 1) := by decide +kernel
theorem dX7_advance_121 : decode cX7_advance 121 = .ok (.invokestatic 49, 3) := by decide +kernel
theorem dX7_advance_124 : decode cX7_advance 124 = .ok (.aload_n 0, 1) := by decide +kernel
theorem dX7_advance_125 : decode cX7_advance 125 = .ok (.getfield 25, 3) := by decide +kernel
theorem dX7_advance_128 : decode cX7_advance 128 = .ok (.if_icmp .ne 40, 3) := by decide +kernel
theorem dX7_advance_131 : decode cX7_advance 131 = .ok (.aload_n 0, 1) := by decide +kernel
theorem dX7_advance_132 : decode cX7_advance 132 = .ok (.aload_n 0, 1) := by decide +kernel
theorem dX7_advance_133 : decode cX7_advance 133 = .ok (.getfield 31, 3) := by decide +kernel
theorem dX7_advance_136 : decode cX7_advance 136 = .ok (.bipush 10, 2) := by decide +kernel
theorem dX7_advance_138 : decode cX7_advance 138 = .ok (.imul, 1) := by decide +kernel
theorem dX7_advance_139 : decode cX7_advance 139 = .ok (.aload_n 0, 1) := by decide +kernel
theorem dX7_advance_140 : decode cX7_advance 140 = .ok (.getfield 9, 3) := by decide +kernel
theorem dX7_advance_143 : decode cX7_advance 143 = .ok (.aload_n 0, 1) := by decide +kernel
theorem dX7_advance_144 : decode cX7_advance 144 = .ok (.getfield 22, 3) := by decide +kernel
theorem dX7_advance_147 : decode cX7_advance 147 = .ok (.baload, 1) := by decide +kernel
theorem dX7_advance_148 : decode cX7_advance 148 = .ok (.bipush 48, 2) := by decide +kernel
theorem dX7_advance_150 : decode cX7_advance 150 = .ok (.isub, 1) := by decide +kernel
theorem dX7_advance_151 : decode cX7_advance 151 = .ok (.iadd, 1) := by decide +kernel
theorem dX7_advance_152 : decode cX7_advance 152 = .ok (.putfield 31, 3) := by decide +kernel
theorem dX7_advance_155 : decode cX7_advance 155 = .ok (.aload_n 0, 1) := by decide +kernel
theorem dX7_advance_156 : decode cX7_advance 156 = .ok (.dup, 1) := by decide +kernel
theorem dX7_advance_157 : decode cX7_advance 157 = .ok (.getfield 22, 3) := by decide +kernel
theorem dX7_advance_160 : decode cX7_advance 160 = .ok (.iconst 1, 1) := by decide +kernel
theorem dX7_advance_161 : decode cX7_advance 161 = .ok (.iadd, 1) := by decide +kernel
theorem dX7_advance_162 : decode cX7_advance 162 = .ok (.putfield 22, 3) := by decide +kernel
theorem dX7_advance_165 : decode cX7_advance 165 = .ok (.goto (-64), 3) := by decide +kernel
theorem dX7_advance_168 : decode cX7_advance 168 = .ok (.aload_n 0, 1) := by decide +kernel
theorem dX7_advance_169 : decode cX7_advance 169 = .ok (.aload_n 0, 1) := by decide +kernel
theorem dX7_advance_170 : decode cX7_advance 170 = .ok (.getfield 22, 3) := by decide +kernel
theorem dX7_advance_173 : decode cX7_advance 173 = .ok (.aload_n 0, 1) := by decide +kernel
theorem dX7_advance_174 : decode cX7_advance 174 = .ok (.getfield 28, 3) := by decide +kernel
theorem dX7_advance_177 : decode cX7_advance 177 = .ok (.isub, 1) := by decide +kernel
theorem dX7_advance_178 : decode cX7_advance 178 = .ok (.aload_n 0, 1) := by decide +kernel
theorem dX7_advance_179 : decode cX7_advance 179 = .ok (.getfield 25, 3) := by decide +kernel
theorem dX7_advance_182 : decode cX7_advance 182 = .ok (.iconst 1, 1) := by decide +kernel
theorem dX7_advance_183 : decode cX7_advance 183 = .ok (.if_icmp .ne 8, 3) := by decide +kernel
theorem dX7_advance_186 : decode cX7_advance 186 = .ok (.bipush 8, 2) := by decide +kernel
theorem dX7_advance_188 : decode cX7_advance 188 = .ok (.goto 4, 3) := by decide +kernel
theorem dX7_advance_191 : decode cX7_advance 191 = .ok (.iconst 4, 1) := by decide +kernel
theorem dX7_advance_192 : decode cX7_advance 192 = .ok (.if_icmp .gt 10, 3) := by decide +kernel
theorem dX7_advance_195 : decode cX7_advance 195 = .ok (.aload_n 0, 1) := by decide +kernel
theorem dX7_advance_196 : decode cX7_advance 196 = .ok (.getfield 25, 3) := by decide +kernel
theorem dX7_advance_199 : decode cX7_advance 199 = .ok (.goto 5, 3) := by decide +kernel
theorem dX7_advance_202 : decode cX7_advance 202 = .ok (.bipush 6, 2) := by decide +kernel
theorem dX7_advance_204 : decode cX7_advance 204 = .ok (.putfield 25, 3) := by decide +kernel
theorem dX7_advance_207 : decode cX7_advance 207 = .ok (.goto 24, 3) := by decide +kernel
theorem dX7_advance_210 : decode cX7_advance 210 = .ok (.aload_n 0, 1) := by decide +kernel
theorem dX7_advance_211 : decode cX7_advance 211 = .ok (.getfield 22, 3) := by decide +kernel
theorem dX7_advance_214 : decode cX7_advance 214 = .ok (.aload_n 0, 1) := by decide +kernel
theorem dX7_advance_215 : decode cX7_advance 215 = .ok (.getfield 19, 3) := by decide +kernel
theorem dX7_advance_218 : decode cX7_advance 218 = .ok (.if_icmp .ge 13, 3) := by decide +kernel
theorem dX7_advance_221 : decode cX7_advance 221 = .ok (.aload_n 0, 1) := by decide +kernel
theorem dX7_advance_222 : decode cX7_advance 222 = .ok (.dup, 1) := by decide +kernel
theorem dX7_advance_223 : decode cX7_advance 223 = .ok (.getfield 22, 3) := by decide +kernel
theorem dX7_advance_226 : decode cX7_advance 226 = .ok (.iconst 1, 1) := by decide +kernel
theorem dX7_advance_227 : decode cX7_advance 227 = .ok (.iadd, 1) := by decide +kernel
theorem dX7_advance_228 : decode cX7_advance 228 = .ok (.putfield 22, 3) := by decide +kernel
theorem dX7_advance_231 : decode cX7_advance 231 = .ok (.return_, 1) := by decide +kernel
theorem dX7_kindOf_0 : decode cX7_kindOf 0 = .ok (.iload_n 0, 1) := by decide +kernel
theorem dX7_kindOf_1 : decode cX7_kindOf 1 = .ok (.bipush 97, 2) := by decide +kernel
theorem dX7_kindOf_3 : decode cX7_kindOf 3 = .ok (.if_icmp .lt 11, 3) := by decide +kernel
theorem dX7_kindOf_6 : decode cX7_kindOf 6 = .ok (.iload_n 0, 1) := by decide +kernel
theorem dX7_kindOf_7 : decode cX7_kindOf 7 = .ok (.bipush 122, 2) := by decide +kernel
theorem dX7_kindOf_9 : decode cX7_kindOf 9 = .ok (.if_icmp .gt 5, 3) := by decide +kernel
theorem dX7_kindOf_12 : decode cX7_kindOf 12 = .ok (.iconst 1, 1) := by decide +kernel
theorem dX7_kindOf_13 : decode cX7_kindOf 13 = .ok (.ireturn, 1) := by decide +kernel
theorem dX7_kindOf_14 : decode cX7_kindOf 14 = .ok (.iload_n 0, 1) := by decide +kernel
theorem dX7_kindOf_15 : decode cX7_kindOf 15 = .ok (.bipush 48, 2) := by decide +kernel
theorem dX7_kindOf_17 : decode cX7_kindOf 17 = .ok (.if_icmp .lt 11, 3) := by decide +kernel
theorem dX7_kindOf_20 : decode cX7_kindOf 20 = .ok (.iload_n 0, 1) := by decide +kernel
theorem dX7_kindOf_21 : decode cX7_kindOf 21 = .ok (.bipush 57, 2) := by decide +kernel
theorem dX7_kindOf_23 : decode cX7_kindOf 23 = .ok (.if_icmp .gt 5, 3) := by decide +kernel
theorem dX7_kindOf_26 : decode cX7_kindOf 26 = .ok (.iconst 2, 1) := by decide +kernel
theorem dX7_kindOf_27 : decode cX7_kindOf 27 = .ok (.ireturn, 1) := by decide +kernel
theorem dX7_kindOf_28 : decode cX7_kindOf 28 = .ok (.iload_n 0, 1) := by decide +kernel
theorem dX7_kindOf_29 : decode cX7_kindOf 29 = .ok (.lookupswitch 63 #[(10, 54), (32, 51), (59, 61), (60, 57), (62, 59)], 51) := by decide +kernel
theorem dX7_kindOf_80 : decode cX7_kindOf 80 = .ok (.bipush 7, 2) := by decide +kernel
theorem dX7_kindOf_82 : decode cX7_kindOf 82 = .ok (.ireturn, 1) := by decide +kernel
theorem dX7_kindOf_83 : decode cX7_kindOf 83 = .ok (.bipush 7, 2) := by decide +kernel
theorem dX7_kindOf_85 : decode cX7_kindOf 85 = .ok (.ireturn, 1) := by decide +kernel
theorem dX7_kindOf_86 : decode cX7_kindOf 86 = .ok (.iconst 3, 1) := by decide +kernel
theorem dX7_kindOf_87 : decode cX7_kindOf 87 = .ok (.ireturn, 1) := by decide +kernel
theorem dX7_kindOf_88 : decode cX7_kindOf 88 = .ok (.iconst 4, 1) := by decide +kernel
theorem dX7_kindOf_89 : decode cX7_kindOf 89 = .ok (.ireturn, 1) := by decide +kernel
theorem dX7_kindOf_90 : decode cX7_kindOf 90 = .ok (.iconst 5, 1) := by decide +kernel
theorem dX7_kindOf_91 : decode cX7_kindOf 91 = .ok (.ireturn, 1) := by decide +kernel
theorem dX7_kindOf_92 : decode cX7_kindOf 92 = .ok (.bipush 6, 2) := by decide +kernel
theorem dX7_kindOf_94 : decode cX7_kindOf 94 = .ok (.ireturn, 1) := by decide +kernel
theorem dX7_isWord_0 : decode cX7_isWord 0 = .ok (.aload_n 0, 1) := by decide +kernel
theorem dX7_isWord_1 : decode cX7_isWord 1 = .ok (.getfield 25, 3) := by decide +kernel
theorem dX7_isWord_4 : decode cX7_isWord 4 = .ok (.iconst 1, 1) := by decide +kernel
theorem dX7_isWord_5 : decode cX7_isWord 5 = .ok (.if_icmp .ne 19, 3) := by decide +kernel
theorem dX7_isWord_8 : decode cX7_isWord 8 = .ok (.aload_n 0, 1) := by decide +kernel
theorem dX7_isWord_9 : decode cX7_isWord 9 = .ok (.getfield 22, 3) := by decide +kernel
theorem dX7_isWord_12 : decode cX7_isWord 12 = .ok (.aload_n 0, 1) := by decide +kernel
theorem dX7_isWord_13 : decode cX7_isWord 13 = .ok (.getfield 28, 3) := by decide +kernel
theorem dX7_isWord_16 : decode cX7_isWord 16 = .ok (.isub, 1) := by decide +kernel
theorem dX7_isWord_17 : decode cX7_isWord 17 = .ok (.aload_n 1, 1) := by decide +kernel
theorem dX7_isWord_18 : decode cX7_isWord 18 = .ok (.invokevirtual 53, 3) := by decide +kernel
theorem dX7_isWord_21 : decode cX7_isWord 21 = .ok (.if_icmp .eq 5, 3) := by decide +kernel
theorem dX7_isWord_24 : decode cX7_isWord 24 = .ok (.iconst 0, 1) := by decide +kernel
theorem dX7_isWord_25 : decode cX7_isWord 25 = .ok (.ireturn, 1) := by decide +kernel
theorem dX7_isWord_26 : decode cX7_isWord 26 = .ok (.iconst 0, 1) := by decide +kernel
theorem dX7_isWord_27 : decode cX7_isWord 27 = .ok (.istore_n 2, 1) := by decide +kernel
theorem dX7_isWord_28 : decode cX7_isWord 28 = .ok (.iload_n 2, 1) := by decide +kernel
theorem dX7_isWord_29 : decode cX7_isWord 29 = .ok (.aload_n 1, 1) := by decide +kernel
theorem dX7_isWord_30 : decode cX7_isWord 30 = .ok (.invokevirtual 53, 3) := by decide +kernel
theorem dX7_isWord_33 : decode cX7_isWord 33 = .ok (.if_icmp .ge 43, 3) := by decide +kernel
theorem dX7_isWord_36 : decode cX7_isWord 36 = .ok (.aload_n 0, 1) := by decide +kernel
theorem dX7_isWord_37 : decode cX7_isWord 37 = .ok (.getfield 28, 3) := by decide +kernel
theorem dX7_isWord_40 : decode cX7_isWord 40 = .ok (.iload_n 2, 1) := by decide +kernel
theorem dX7_isWord_41 : decode cX7_isWord 41 = .ok (.iadd, 1) := by decide +kernel
theorem dX7_isWord_42 : decode cX7_isWord 42 = .ok (.aload_n 0, 1) := by decide +kernel
theorem dX7_isWord_43 : decode cX7_isWord 43 = .ok (.getfield 19, 3) := by decide +kernel
theorem dX7_isWord_46 : decode cX7_isWord 46 = .ok (.if_icmp .ge 30, 3) := by decide +kernel
theorem dX7_isWord_49 : decode cX7_isWord 49 = .ok (.aload_n 0, 1) := by decide +kernel
theorem dX7_isWord_50 : decode cX7_isWord 50 = .ok (.getfield 9, 3) := by decide +kernel
theorem dX7_isWord_53 : decode cX7_isWord 53 = .ok (.aload_n 0, 1) := by decide +kernel
theorem dX7_isWord_54 : decode cX7_isWord 54 = .ok (.getfield 28, 3) := by decide +kernel
theorem dX7_isWord_57 : decode cX7_isWord 57 = .ok (.iload_n 2, 1) := by decide +kernel
theorem dX7_isWord_58 : decode cX7_isWord 58 = .ok (.iadd, 1) := by decide +kernel
theorem dX7_isWord_59 : decode cX7_isWord 59 = .ok (.baload, 1) := by decide +kernel
theorem dX7_isWord_60 : decode cX7_isWord 60 = .ok (.aload_n 1, 1) := by decide +kernel
theorem dX7_isWord_61 : decode cX7_isWord 61 = .ok (.iload_n 2, 1) := by decide +kernel
theorem dX7_isWord_62 : decode cX7_isWord 62 = .ok (.invokevirtual 59, 3) := by decide +kernel
theorem dX7_isWord_65 : decode cX7_isWord 65 = .ok (.if_icmp .eq 5, 3) := by decide +kernel
theorem dX7_isWord_68 : decode cX7_isWord 68 = .ok (.iconst 0, 1) := by decide +kernel
theorem dX7_isWord_69 : decode cX7_isWord 69 = .ok (.ireturn, 1) := by decide +kernel
theorem dX7_isWord_70 : decode cX7_isWord 70 = .ok (.iinc 2 1, 3) := by decide +kernel
theorem dX7_isWord_73 : decode cX7_isWord 73 = .ok (.goto (-45), 3) := by decide +kernel
theorem dX7_isWord_76 : decode cX7_isWord 76 = .ok (.iconst 1, 1) := by decide +kernel
theorem dX7_isWord_77 : decode cX7_isWord 77 = .ok (.ireturn, 1) := by decide +kernel
theorem dX7_takeSemicolon_0 : decode cX7_takeSemicolon 0 = .ok (.aload_n 0, 1) := by decide +kernel
theorem dX7_takeSemicolon_1 : decode cX7_takeSemicolon 1 = .ok (.getfield 25, 3) := by decide +kernel
theorem dX7_takeSemicolon_4 : decode cX7_takeSemicolon 4 = .ok (.iconst 5, 1) := by decide +kernel
theorem dX7_takeSemicolon_5 : decode cX7_takeSemicolon 5 = .ok (.if_icmp .eq 9, 3) := by decide +kernel
theorem dX7_takeSemicolon_8 : decode cX7_takeSemicolon 8 = .ok (.aload_n 0, 1) := by decide +kernel
theorem dX7_takeSemicolon_9 : decode cX7_takeSemicolon 9 = .ok (.iconst 1, 1) := by decide +kernel
theorem dX7_takeSemicolon_10 : decode cX7_takeSemicolon 10 = .ok (.invokevirtual 63, 3) := by decide +kernel
theorem dX7_takeSemicolon_13 : decode cX7_takeSemicolon 13 = .ok (.ireturn, 1) := by decide +kernel
theorem dX7_takeSemicolon_14 : decode cX7_takeSemicolon 14 = .ok (.aload_n 0, 1) := by decide +kernel
theorem dX7_takeSemicolon_15 : decode cX7_takeSemicolon 15 = .ok (.invokevirtual 46, 3) := by decide +kernel
theorem dX7_takeSemicolon_18 : decode cX7_takeSemicolon 18 = .ok (.iconst 1, 1) := by decide +kernel
theorem dX7_takeSemicolon_19 : decode cX7_takeSemicolon 19 = .ok (.ireturn, 1) := by decide +kernel
theorem dX7_takeThis_0 : decode cX7_takeThis 0 = .ok (.aload_n 0, 1) := by decide +kernel
theorem dX7_takeThis_1 : decode cX7_takeThis 1 = .ok (.aload_n 1, 1) := by decide +kernel
theorem dX7_takeThis_2 : decode cX7_takeThis 2 = .ok (.invokevirtual 67, 3) := by decide +kernel
theorem dX7_takeThis_5 : decode cX7_takeThis 5 = .ok (.ifCond .ne 9, 3) := by decide +kernel
theorem dX7_takeThis_8 : decode cX7_takeThis 8 = .ok (.aload_n 0, 1) := by decide +kernel
theorem dX7_takeThis_9 : decode cX7_takeThis 9 = .ok (.iconst 1, 1) := by decide +kernel
theorem dX7_takeThis_10 : decode cX7_takeThis 10 = .ok (.invokevirtual 63, 3) := by decide +kernel
theorem dX7_takeThis_13 : decode cX7_takeThis 13 = .ok (.ireturn, 1) := by decide +kernel
theorem dX7_takeThis_14 : decode cX7_takeThis 14 = .ok (.aload_n 0, 1) := by decide +kernel
theorem dX7_takeThis_15 : decode cX7_takeThis 15 = .ok (.invokevirtual 46, 3) := by decide +kernel
theorem dX7_takeThis_18 : decode cX7_takeThis 18 = .ok (.iconst 1, 1) := by decide +kernel
theorem dX7_takeThis_19 : decode cX7_takeThis 19 = .ok (.ireturn, 1) := by decide +kernel
