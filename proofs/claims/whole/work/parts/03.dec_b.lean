theorem dX8_init_0 : decode cX8_init 0 = .ok (.aload_n 0, 1) := by decide +kernel
theorem dX8_init_1 : decode cX8_init 1 = .ok (.invokespecial 3, 3) := by decide +kernel
theorem dX8_init_4 : decode cX8_init 4 = .ok (.aload_n 0, 1) := by decide +kernel
theorem dX8_init_5 : decode cX8_init 5 = .ok (.new 9, 3) := by decide +kernel
theorem dX8_init_8 : decode cX8_init 8 = .ok (.dup, 1) := by decide +kernel
theorem dX8_init_9 : decode cX8_init 9 = .ok (.invokespecial 11, 3) := by decide +kernel
theorem dX8_init_12 : decode cX8_init 12 = .ok (.putfield 12, 3) := by decide +kernel
theorem dX8_init_15 : decode cX8_init 15 = .ok (.aload_n 0, 1) := by decide +kernel
theorem dX8_init_16 : decode cX8_init 16 = .ok (.new 18, 3) := by decide +kernel
theorem dX8_init_19 : decode cX8_init 19 = .ok (.dup, 1) := by decide +kernel
theorem dX8_init_20 : decode cX8_init 20 = .ok (.invokespecial 20, 3) := by decide +kernel
theorem dX8_init_23 : decode cX8_init 23 = .ok (.putfield 21, 3) := by decide +kernel
theorem dX8_init_26 : decode cX8_init 26 = .ok (.aload_n 0, 1) := by decide +kernel
theorem dX8_init_27 : decode cX8_init 27 = .ok (.bipush 13, 2) := by decide +kernel
theorem dX8_init_29 : decode cX8_init 29 = .ok (.newarray .int, 2) := by decide +kernel
theorem dX8_init_31 : decode cX8_init 31 = .ok (.putfield 25, 3) := by decide +kernel
theorem dX8_init_34 : decode cX8_init 34 = .ok (.aload_n 0, 1) := by decide +kernel
theorem dX8_init_35 : decode cX8_init 35 = .ok (.bipush 13, 2) := by decide +kernel
theorem dX8_init_37 : decode cX8_init 37 = .ok (.newarray .int, 2) := by decide +kernel
theorem dX8_init_39 : decode cX8_init 39 = .ok (.putfield 29, 3) := by decide +kernel
theorem dX8_init_42 : decode cX8_init 42 = .ok (.aload_n 0, 1) := by decide +kernel
theorem dX8_init_43 : decode cX8_init 43 = .ok (.iconst 0, 1) := by decide +kernel
theorem dX8_init_44 : decode cX8_init 44 = .ok (.putfield 32, 3) := by decide +kernel
theorem dX8_init_47 : decode cX8_init 47 = .ok (.aload_n 0, 1) := by decide +kernel
theorem dX8_init_48 : decode cX8_init 48 = .ok (.iconst 0, 1) := by decide +kernel
theorem dX8_init_49 : decode cX8_init 49 = .ok (.putfield 36, 3) := by decide +kernel
theorem dX8_init_52 : decode cX8_init 52 = .ok (.aload_n 0, 1) := by decide +kernel
theorem dX8_init_53 : decode cX8_init 53 = .ok (.iconst 0, 1) := by decide +kernel
theorem dX8_init_54 : decode cX8_init 54 = .ok (.putfield 39, 3) := by decide +kernel
theorem dX8_init_57 : decode cX8_init 57 = .ok (.aload_n 0, 1) := by decide +kernel
theorem dX8_init_58 : decode cX8_init 58 = .ok (.iconst 0, 1) := by decide +kernel
theorem dX8_init_59 : decode cX8_init 59 = .ok (.putfield 42, 3) := by decide +kernel
theorem dX8_init_62 : decode cX8_init 62 = .ok (.aload_n 0, 1) := by decide +kernel
theorem dX8_init_63 : decode cX8_init 63 = .ok (.iconst 0, 1) := by decide +kernel
theorem dX8_init_64 : decode cX8_init 64 = .ok (.putfield 45, 3) := by decide +kernel
theorem dX8_init_67 : decode cX8_init 67 = .ok (.aload_n 0, 1) := by decide +kernel
theorem dX8_init_68 : decode cX8_init 68 = .ok (.iconst 0, 1) := by decide +kernel
theorem dX8_init_69 : decode cX8_init 69 = .ok (.putfield 48, 3) := by decide +kernel
theorem dX8_init_72 : decode cX8_init 72 = .ok (.aload_n 0, 1) := by decide +kernel
theorem dX8_init_73 : decode cX8_init 73 = .ok (.iconst 0, 1) := by decide +kernel
theorem dX8_init_74 : decode cX8_init 74 = .ok (.putfield 51, 3) := by decide +kernel
theorem dX8_init_77 : decode cX8_init 77 = .ok (.aload_n 0, 1) := by decide +kernel
theorem dX8_init_78 : decode cX8_init 78 = .ok (.iconst 0, 1) := by decide +kernel
theorem dX8_init_79 : decode cX8_init 79 = .ok (.putfield 54, 3) := by decide +kernel
theorem dX8_init_82 : decode cX8_init 82 = .ok (.aload_n 0, 1) := by decide +kernel
theorem dX8_init_83 : decode cX8_init 83 = .ok (.iconst 0, 1) := by decide +kernel
theorem dX8_init_84 : decode cX8_init 84 = .ok (.putfield 57, 3) := by decide +kernel
theorem dX8_init_87 : decode cX8_init 87 = .ok (.aload_n 0, 1) := by decide +kernel
theorem dX8_init_88 : decode cX8_init 88 = .ok (.iconst 0, 1) := by decide +kernel
theorem dX8_init_89 : decode cX8_init 89 = .ok (.putfield 60, 3) := by decide +kernel
theorem dX8_init_92 : decode cX8_init 92 = .ok (.aload_n 0, 1) := by decide +kernel
theorem dX8_init_93 : decode cX8_init 93 = .ok (.iconst (-1), 1) := by decide +kernel
theorem dX8_init_94 : decode cX8_init 94 = .ok (.putfield 63, 3) := by decide +kernel
theorem dX8_init_97 : decode cX8_init 97 = .ok (.return_, 1) := by decide +kernel
theorem dX8_begin_0 : decode cX8_begin 0 = .ok (.aload_n 0, 1) := by decide +kernel
theorem dX8_begin_1 : decode cX8_begin 1 = .ok (.getfield 12, 3) := by decide +kernel
theorem dX8_begin_4 : decode cX8_begin 4 = .ok (.iload_n 1, 1) := by decide +kernel
theorem dX8_begin_5 : decode cX8_begin 5 = .ok (.invokevirtual 66, 3) := by decide +kernel
theorem dX8_begin_8 : decode cX8_begin 8 = .ok (.aload_n 0, 1) := by decide +kernel
theorem dX8_begin_9 : decode cX8_begin 9 = .ok (.getfield 21, 3) := by decide +kernel
theorem dX8_begin_12 : decode cX8_begin 12 = .ok (.iconst 0, 1) := by decide +kernel
theorem dX8_begin_13 : decode cX8_begin 13 = .ok (.putfield 70, 3) := by decide +kernel
theorem dX8_begin_16 : decode cX8_begin 16 = .ok (.aload_n 0, 1) := by decide +kernel
theorem dX8_begin_17 : decode cX8_begin 17 = .ok (.getfield 25, 3) := by decide +kernel
theorem dX8_begin_20 : decode cX8_begin 20 = .ok (.iconst (-1), 1) := by decide +kernel
theorem dX8_begin_21 : decode cX8_begin 21 = .ok (.invokestatic 73, 3) := by decide +kernel
theorem dX8_begin_24 : decode cX8_begin 24 = .ok (.aload_n 0, 1) := by decide +kernel
theorem dX8_begin_25 : decode cX8_begin 25 = .ok (.getfield 29, 3) := by decide +kernel
theorem dX8_begin_28 : decode cX8_begin 28 = .ok (.iconst (-1), 1) := by decide +kernel
theorem dX8_begin_29 : decode cX8_begin 29 = .ok (.invokestatic 73, 3) := by decide +kernel
theorem dX8_begin_32 : decode cX8_begin 32 = .ok (.aload_n 0, 1) := by decide +kernel
theorem dX8_begin_33 : decode cX8_begin 33 = .ok (.iload_n 2, 1) := by decide +kernel
theorem dX8_begin_34 : decode cX8_begin 34 = .ok (.putfield 32, 3) := by decide +kernel
theorem dX8_begin_37 : decode cX8_begin 37 = .ok (.aload_n 0, 1) := by decide +kernel
theorem dX8_begin_38 : decode cX8_begin 38 = .ok (.iload_n 3, 1) := by decide +kernel
theorem dX8_begin_39 : decode cX8_begin 39 = .ok (.putfield 36, 3) := by decide +kernel
theorem dX8_begin_42 : decode cX8_begin 42 = .ok (.aload_n 0, 1) := by decide +kernel
theorem dX8_begin_43 : decode cX8_begin 43 = .ok (.iload 4, 2) := by decide +kernel
theorem dX8_begin_45 : decode cX8_begin 45 = .ok (.putfield 39, 3) := by decide +kernel
theorem dX8_begin_48 : decode cX8_begin 48 = .ok (.aload_n 0, 1) := by decide +kernel
theorem dX8_begin_49 : decode cX8_begin 49 = .ok (.iload 5, 2) := by decide +kernel
theorem dX8_begin_51 : decode cX8_begin 51 = .ok (.putfield 42, 3) := by decide +kernel
theorem dX8_begin_54 : decode cX8_begin 54 = .ok (.aload_n 0, 1) := by decide +kernel
theorem dX8_begin_55 : decode cX8_begin 55 = .ok (.iconst 0, 1) := by decide +kernel
theorem dX8_begin_56 : decode cX8_begin 56 = .ok (.putfield 45, 3) := by decide +kernel
theorem dX8_begin_59 : decode cX8_begin 59 = .ok (.aload_n 0, 1) := by decide +kernel
theorem dX8_begin_60 : decode cX8_begin 60 = .ok (.iload_n 3, 1) := by decide +kernel
theorem dX8_begin_61 : decode cX8_begin 61 = .ok (.putfield 48, 3) := by decide +kernel
theorem dX8_begin_64 : decode cX8_begin 64 = .ok (.aload_n 0, 1) := by decide +kernel
theorem dX8_begin_65 : decode cX8_begin 65 = .ok (.iconst 0, 1) := by decide +kernel
theorem dX8_begin_66 : decode cX8_begin 66 = .ok (.putfield 51, 3) := by decide +kernel
theorem dX8_begin_69 : decode cX8_begin 69 = .ok (.aload_n 0, 1) := by decide +kernel
theorem dX8_begin_70 : decode cX8_begin 70 = .ok (.iconst 0, 1) := by decide +kernel
theorem dX8_begin_71 : decode cX8_begin 71 = .ok (.putfield 54, 3) := by decide +kernel
theorem dX8_begin_74 : decode cX8_begin 74 = .ok (.aload_n 0, 1) := by decide +kernel
theorem dX8_begin_75 : decode cX8_begin 75 = .ok (.iconst 0, 1) := by decide +kernel
theorem dX8_begin_76 : decode cX8_begin 76 = .ok (.putfield 57, 3) := by decide +kernel
theorem dX8_begin_79 : decode cX8_begin 79 = .ok (.aload_n 0, 1) := by decide +kernel
theorem dX8_begin_80 : decode cX8_begin 80 = .ok (.iconst 0, 1) := by decide +kernel
theorem dX8_begin_81 : decode cX8_begin 81 = .ok (.putfield 60, 3) := by decide +kernel
theorem dX8_begin_84 : decode cX8_begin 84 = .ok (.aload_n 0, 1) := by decide +kernel
theorem dX8_begin_85 : decode cX8_begin 85 = .ok (.iconst (-1), 1) := by decide +kernel
theorem dX8_begin_86 : decode cX8_begin 86 = .ok (.putfield 63, 3) := by decide +kernel
theorem dX8_begin_89 : decode cX8_begin 89 = .ok (.return_, 1) := by decide +kernel
theorem dX8_beginAgain_0 : decode cX8_beginAgain 0 = .ok (.aload_n 1, 1) := by decide +kernel
theorem dX8_beginAgain_1 : decode cX8_beginAgain 1 = .ok (.aload_n 0, 1) := by decide +kernel
theorem dX8_beginAgain_2 : decode cX8_beginAgain 2 = .ok (.getfield 12, 3) := by decide +kernel
theorem dX8_beginAgain_5 : decode cX8_beginAgain 5 = .ok (.getfield 79, 3) := by decide +kernel
theorem dX8_beginAgain_8 : decode cX8_beginAgain 8 = .ok (.aload_n 0, 1) := by decide +kernel
theorem dX8_beginAgain_9 : decode cX8_beginAgain 9 = .ok (.getfield 32, 3) := by decide +kernel
theorem dX8_beginAgain_12 : decode cX8_beginAgain 12 = .ok (.aload_n 0, 1) := by decide +kernel
theorem dX8_beginAgain_13 : decode cX8_beginAgain 13 = .ok (.getfield 36, 3) := by decide +kernel
theorem dX8_beginAgain_16 : decode cX8_beginAgain 16 = .ok (.aload_n 0, 1) := by decide +kernel
theorem dX8_beginAgain_17 : decode cX8_beginAgain 17 = .ok (.getfield 39, 3) := by decide +kernel
theorem dX8_beginAgain_20 : decode cX8_beginAgain 20 = .ok (.iload_n 2, 1) := by decide +kernel
theorem dX8_beginAgain_21 : decode cX8_beginAgain 21 = .ok (.invokevirtual 80, 3) := by decide +kernel
theorem dX8_beginAgain_24 : decode cX8_beginAgain 24 = .ok (.return_, 1) := by decide +kernel
theorem dX8_copyFrom_0 : decode cX8_copyFrom 0 = .ok (.aload_n 0, 1) := by decide +kernel
theorem dX8_copyFrom_1 : decode cX8_copyFrom 1 = .ok (.getfield 12, 3) := by decide +kernel
theorem dX8_copyFrom_4 : decode cX8_copyFrom 4 = .ok (.aload_n 1, 1) := by decide +kernel
theorem dX8_copyFrom_5 : decode cX8_copyFrom 5 = .ok (.getfield 12, 3) := by decide +kernel
theorem dX8_copyFrom_8 : decode cX8_copyFrom 8 = .ok (.invokevirtual 83, 3) := by decide +kernel
theorem dX8_copyFrom_11 : decode cX8_copyFrom 11 = .ok (.aload_n 0, 1) := by decide +kernel
theorem dX8_copyFrom_12 : decode cX8_copyFrom 12 = .ok (.getfield 21, 3) := by decide +kernel
theorem dX8_copyFrom_15 : decode cX8_copyFrom 15 = .ok (.aload_n 1, 1) := by decide +kernel
theorem dX8_copyFrom_16 : decode cX8_copyFrom 16 = .ok (.getfield 21, 3) := by decide +kernel
theorem dX8_copyFrom_19 : decode cX8_copyFrom 19 = .ok (.invokevirtual 87, 3) := by decide +kernel
theorem dX8_copyFrom_22 : decode cX8_copyFrom 22 = .ok (.aload_n 1, 1) := by decide +kernel
theorem dX8_copyFrom_23 : decode cX8_copyFrom 23 = .ok (.getfield 25, 3) := by decide +kernel
theorem dX8_copyFrom_26 : decode cX8_copyFrom 26 = .ok (.iconst 0, 1) := by decide +kernel
theorem dX8_copyFrom_27 : decode cX8_copyFrom 27 = .ok (.aload_n 0, 1) := by decide +kernel
theorem dX8_copyFrom_28 : decode cX8_copyFrom 28 = .ok (.getfield 25, 3) := by decide +kernel
theorem dX8_copyFrom_31 : decode cX8_copyFrom 31 = .ok (.iconst 0, 1) := by decide +kernel
theorem dX8_copyFrom_32 : decode cX8_copyFrom 32 = .ok (.bipush 13, 2) := by decide +kernel
theorem dX8_copyFrom_34 : decode cX8_copyFrom 34 = .ok (.invokestatic 90, 3) := by decide +kernel
theorem dX8_copyFrom_37 : decode cX8_copyFrom 37 = .ok (.aload_n 1, 1) := by decide +kernel
theorem dX8_copyFrom_38 : decode cX8_copyFrom 38 = .ok (.getfield 29, 3) := by decide +kernel
theorem dX8_copyFrom_41 : decode cX8_copyFrom 41 = .ok (.iconst 0, 1) := by decide +kernel
theorem dX8_copyFrom_42 : decode cX8_copyFrom 42 = .ok (.aload_n 0, 1) := by decide +kernel
theorem dX8_copyFrom_43 : decode cX8_copyFrom 43 = .ok (.getfield 29, 3) := by decide +kernel
theorem dX8_copyFrom_46 : decode cX8_copyFrom 46 = .ok (.iconst 0, 1) := by decide +kernel
theorem dX8_copyFrom_47 : decode cX8_copyFrom 47 = .ok (.bipush 13, 2) := by decide +kernel
theorem dX8_copyFrom_49 : decode cX8_copyFrom 49 = .ok (.invokestatic 90, 3) := by decide +kernel
theorem dX8_copyFrom_52 : decode cX8_copyFrom 52 = .ok (.aload_n 0, 1) := by decide +kernel
theorem dX8_copyFrom_53 : decode cX8_copyFrom 53 = .ok (.aload_n 1, 1) := by decide +kernel
theorem dX8_copyFrom_54 : decode cX8_copyFrom 54 = .ok (.getfield 32, 3) := by decide +kernel
theorem dX8_copyFrom_57 : decode cX8_copyFrom 57 = .ok (.putfield 32, 3) := by decide +kernel
theorem dX8_copyFrom_60 : decode cX8_copyFrom 60 = .ok (.aload_n 0, 1) := by decide +kernel
theorem dX8_copyFrom_61 : decode cX8_copyFrom 61 = .ok (.aload_n 1, 1) := by decide +kernel
theorem dX8_copyFrom_62 : decode cX8_copyFrom 62 = .ok (.getfield 36, 3) := by decide +kernel
theorem dX8_copyFrom_65 : decode cX8_copyFrom 65 = .ok (.putfield 36, 3) := by decide +kernel
theorem dX8_copyFrom_68 : decode cX8_copyFrom 68 = .ok (.aload_n 0, 1) := by decide +kernel
theorem dX8_copyFrom_69 : decode cX8_copyFrom 69 = .ok (.aload_n 1, 1) := by decide +kernel
theorem dX8_copyFrom_70 : decode cX8_copyFrom 70 = .ok (.getfield 39, 3) := by decide +kernel
theorem dX8_copyFrom_73 : decode cX8_copyFrom 73 = .ok (.putfield 39, 3) := by decide +kernel
theorem dX8_copyFrom_76 : decode cX8_copyFrom 76 = .ok (.aload_n 0, 1) := by decide +kernel
theorem dX8_copyFrom_77 : decode cX8_copyFrom 77 = .ok (.aload_n 1, 1) := by decide +kernel
theorem dX8_copyFrom_78 : decode cX8_copyFrom 78 = .ok (.getfield 42, 3) := by decide +kernel
theorem dX8_copyFrom_81 : decode cX8_copyFrom 81 = .ok (.putfield 42, 3) := by decide +kernel
theorem dX8_copyFrom_84 : decode cX8_copyFrom 84 = .ok (.aload_n 0, 1) := by decide +kernel
theorem dX8_copyFrom_85 : decode cX8_copyFrom 85 = .ok (.aload_n 1, 1) := by decide +kernel
theorem dX8_copyFrom_86 : decode cX8_copyFrom 86 = .ok (.getfield 45, 3) := by decide +kernel
theorem dX8_copyFrom_89 : decode cX8_copyFrom 89 = .ok (.putfield 45, 3) := by decide +kernel
theorem dX8_copyFrom_92 : decode cX8_copyFrom 92 = .ok (.aload_n 0, 1) := by decide +kernel
theorem dX8_copyFrom_93 : decode cX8_copyFrom 93 = .ok (.aload_n 1, 1) := by decide +kernel
theorem dX8_copyFrom_94 : decode cX8_copyFrom 94 = .ok (.getfield 48, 3) := by decide +kernel
theorem dX8_copyFrom_97 : decode cX8_copyFrom 97 = .ok (.putfield 48, 3) := by decide +kernel
theorem dX8_copyFrom_100 : decode cX8_copyFrom 100 = .ok (.aload_n 0, 1) := by decide +kernel
theorem dX8_copyFrom_101 : decode cX8_copyFrom 101 = .ok (.aload_n 1, 1) := by decide +kernel
theorem dX8_copyFrom_102 : decode cX8_copyFrom 102 = .ok (.getfield 51, 3) := by decide +kernel
theorem dX8_copyFrom_105 : decode cX8_copyFrom 105 = .ok (.putfield 51, 3) := by decide +kernel
theorem dX8_copyFrom_108 : decode cX8_copyFrom 108 = .ok (.aload_n 0, 1) := by decide +kernel
theorem dX8_copyFrom_109 : decode cX8_copyFrom 109 = .ok (.aload_n 1, 1) := by decide +kernel
theorem dX8_copyFrom_110 : decode cX8_copyFrom 110 = .ok (.getfield 54, 3) := by decide +kernel
theorem dX8_copyFrom_113 : decode cX8_copyFrom 113 = .ok (.putfield 54, 3) := by decide +kernel
theorem dX8_copyFrom_116 : decode cX8_copyFrom 116 = .ok (.aload_n 0, 1) := by decide +kernel
theorem dX8_copyFrom_117 : decode cX8_copyFrom 117 = .ok (.aload_n 1, 1) := by decide +kernel
theorem dX8_copyFrom_118 : decode cX8_copyFrom 118 = .ok (.getfield 57, 3) := by decide +kernel
theorem dX8_copyFrom_121 : decode cX8_copyFrom 121 = .ok (.putfield 57, 3) := by decide +kernel
theorem dX8_copyFrom_124 : decode cX8_copyFrom 124 = .ok (.aload_n 0, 1) := by decide +kernel
theorem dX8_copyFrom_125 : decode cX8_copyFrom 125 = .ok (.aload_n 1, 1) := by decide +kernel
theorem dX8_copyFrom_126 : decode cX8_copyFrom 126 = .ok (.getfield 60, 3) := by decide +kernel
theorem dX8_copyFrom_129 : decode cX8_copyFrom 129 = .ok (.putfield 60, 3) := by decide +kernel
theorem dX8_copyFrom_132 : decode cX8_copyFrom 132 = .ok (.aload_n 0, 1) := by decide +kernel
theorem dX8_copyFrom_133 : decode cX8_copyFrom 133 = .ok (.aload_n 1, 1) := by decide +kernel
theorem dX8_copyFrom_134 : decode cX8_copyFrom 134 = .ok (.getfield 63, 3) := by decide +kernel
theorem dX8_copyFrom_137 : decode cX8_copyFrom 137 = .ok (.putfield 63, 3) := by decide +kernel
theorem dX8_copyFrom_140 : decode cX8_copyFrom 140 = .ok (.return_, 1) := by decide +kernel
theorem dX8_isThrough_0 : decode cX8_isThrough 0 = .ok (.aload_n 0, 1) := by decide +kernel
theorem dX8_isThrough_1 : decode cX8_isThrough 1 = .ok (.getfield 45, 3) := by decide +kernel
theorem dX8_isThrough_4 : decode cX8_isThrough 4 = .ok (.iconst 2, 1) := by decide +kernel
theorem dX8_isThrough_5 : decode cX8_isThrough 5 = .ok (.if_icmp .eq 11, 3) := by decide +kernel
theorem dX8_isThrough_8 : decode cX8_isThrough 8 = .ok (.aload_n 0, 1) := by decide +kernel
theorem dX8_isThrough_9 : decode cX8_isThrough 9 = .ok (.getfield 45, 3) := by decide +kernel
theorem dX8_isThrough_12 : decode cX8_isThrough 12 = .ok (.iconst 3, 1) := by decide +kernel
theorem dX8_isThrough_13 : decode cX8_isThrough 13 = .ok (.if_icmp .ne 7, 3) := by decide +kernel
theorem dX8_isThrough_16 : decode cX8_isThrough 16 = .ok (.iconst 1, 1) := by decide +kernel
theorem dX8_isThrough_17 : decode cX8_isThrough 17 = .ok (.goto 4, 3) := by decide +kernel
theorem dX8_isThrough_20 : decode cX8_isThrough 20 = .ok (.iconst 0, 1) := by decide +kernel
theorem dX8_isThrough_21 : decode cX8_isThrough 21 = .ok (.ireturn, 1) := by decide +kernel
theorem dX8_way_0 : decode cX8_way 0 = .ok (.aload_n 1, 1) := by decide +kernel
theorem dX8_way_1 : decode cX8_way 1 = .ok (.getfield 96, 3) := by decide +kernel
theorem dX8_way_4 : decode cX8_way 4 = .ok (.aload_n 0, 1) := by decide +kernel
theorem dX8_way_5 : decode cX8_way 5 = .ok (.getfield 51, 3) := by decide +kernel
theorem dX8_way_8 : decode cX8_way 8 = .ok (.iaload, 1) := by decide +kernel
theorem dX8_way_9 : decode cX8_way 9 = .ok (.aload_n 0, 1) := by decide +kernel
theorem dX8_way_10 : decode cX8_way 10 = .ok (.getfield 54, 3) := by decide +kernel
theorem dX8_way_13 : decode cX8_way 13 = .ok (.iadd, 1) := by decide +kernel
theorem dX8_way_14 : decode cX8_way 14 = .ok (.ireturn, 1) := by decide +kernel
theorem dX8_loadNow_0 : decode cX8_loadNow 0 = .ok (.aload_n 0, 1) := by decide +kernel
theorem dX8_loadNow_1 : decode cX8_loadNow 1 = .ok (.getfield 32, 3) := by decide +kernel
theorem dX8_loadNow_4 : decode cX8_loadNow 4 = .ok (.bipush 25, 2) := by decide +kernel
theorem dX8_loadNow_6 : decode cX8_loadNow 6 = .ok (.aload_n 0, 1) := by decide +kernel
theorem dX8_loadNow_7 : decode cX8_loadNow 7 = .ok (.getfield 12, 3) := by decide +kernel
theorem dX8_loadNow_10 : decode cX8_loadNow 10 = .ok (.getfield 101, 3) := by decide +kernel
theorem dX8_loadNow_13 : decode cX8_loadNow 13 = .ok (.imul, 1) := by decide +kernel
theorem dX8_loadNow_14 : decode cX8_loadNow 14 = .ok (.iadd, 1) := by decide +kernel
theorem dX8_loadNow_15 : decode cX8_loadNow 15 = .ok (.ireturn, 1) := by decide +kernel
theorem dX8_restedAt_0 : decode cX8_restedAt 0 = .ok (.iload_n 1, 1) := by decide +kernel
theorem dX8_restedAt_1 : decode cX8_restedAt 1 = .ok (.ifCond .lt 19, 3) := by decide +kernel
theorem dX8_restedAt_4 : decode cX8_restedAt 4 = .ok (.iload_n 1, 1) := by decide +kernel
theorem dX8_restedAt_5 : decode cX8_restedAt 5 = .ok (.bipush 12, 2) := by decide +kernel
theorem dX8_restedAt_7 : decode cX8_restedAt 7 = .ok (.if_icmp .gt 13, 3) := by decide +kernel
theorem dX8_restedAt_10 : decode cX8_restedAt 10 = .ok (.aload_n 0, 1) := by decide +kernel
theorem dX8_restedAt_11 : decode cX8_restedAt 11 = .ok (.getfield 29, 3) := by decide +kernel
theorem dX8_restedAt_14 : decode cX8_restedAt 14 = .ok (.iload_n 1, 1) := by decide +kernel
theorem dX8_restedAt_15 : decode cX8_restedAt 15 = .ok (.iaload, 1) := by decide +kernel
theorem dX8_restedAt_16 : decode cX8_restedAt 16 = .ok (.iconst (-1), 1) := by decide +kernel
theorem dX8_restedAt_17 : decode cX8_restedAt 17 = .ok (.if_icmp .ne 5, 3) := by decide +kernel
theorem dX8_restedAt_20 : decode cX8_restedAt 20 = .ok (.iconst 0, 1) := by decide +kernel
theorem dX8_restedAt_21 : decode cX8_restedAt 21 = .ok (.ireturn, 1) := by decide +kernel
theorem dX8_restedAt_22 : decode cX8_restedAt 22 = .ok (.aload_n 0, 1) := by decide +kernel
theorem dX8_restedAt_23 : decode cX8_restedAt 23 = .ok (.getfield 29, 3) := by decide +kernel
theorem dX8_restedAt_26 : decode cX8_restedAt 26 = .ok (.iload_n 1, 1) := by decide +kernel
theorem dX8_restedAt_27 : decode cX8_restedAt 27 = .ok (.iaload, 1) := by decide +kernel
theorem dX8_restedAt_28 : decode cX8_restedAt 28 = .ok (.aload_n 0, 1) := by decide +kernel
theorem dX8_restedAt_29 : decode cX8_restedAt 29 = .ok (.getfield 25, 3) := by decide +kernel
theorem dX8_restedAt_32 : decode cX8_restedAt 32 = .ok (.iload_n 1, 1) := by decide +kernel
theorem dX8_restedAt_33 : decode cX8_restedAt 33 = .ok (.iaload, 1) := by decide +kernel
theorem dX8_restedAt_34 : decode cX8_restedAt 34 = .ok (.isub, 1) := by decide +kernel
theorem dX8_restedAt_35 : decode cX8_restedAt 35 = .ok (.ireturn, 1) := by decide +kernel
theorem dX8_doStep_0 : decode cX8_doStep 0 = .ok (.aload_n 0, 1) := by decide +kernel
theorem dX8_doStep_1 : decode cX8_doStep 1 = .ok (.getfield 45, 3) := by decide +kernel
theorem dX8_doStep_4 : decode cX8_doStep 4 = .ok (.ifCond .ne 26, 3) := by decide +kernel
theorem dX8_doStep_7 : decode cX8_doStep 7 = .ok (.iload_n 3, 1) := by decide +kernel
theorem dX8_doStep_8 : decode cX8_doStep 8 = .ok (.aload_n 0, 1) := by decide +kernel
theorem dX8_doStep_9 : decode cX8_doStep 9 = .ok (.getfield 39, 3) := by decide +kernel
theorem dX8_doStep_12 : decode cX8_doStep 12 = .ok (.if_icmp .ne 18, 3) := by decide +kernel
theorem dX8_doStep_15 : decode cX8_doStep 15 = .ok (.aload_n 0, 1) := by decide +kernel
theorem dX8_doStep_16 : decode cX8_doStep 16 = .ok (.iconst 1, 1) := by decide +kernel
theorem dX8_doStep_17 : decode cX8_doStep 17 = .ok (.putfield 45, 3) := by decide +kernel
theorem dX8_doStep_20 : decode cX8_doStep 20 = .ok (.aload_n 0, 1) := by decide +kernel
theorem dX8_doStep_21 : decode cX8_doStep 21 = .ok (.getfield 25, 3) := by decide +kernel
theorem dX8_doStep_24 : decode cX8_doStep 24 = .ok (.iconst 0, 1) := by decide +kernel
theorem dX8_doStep_25 : decode cX8_doStep 25 = .ok (.aload_n 0, 1) := by decide +kernel
theorem dX8_doStep_26 : decode cX8_doStep 26 = .ok (.getfield 39, 3) := by decide +kernel
theorem dX8_doStep_29 : decode cX8_doStep 29 = .ok (.iastore, 1) := by decide +kernel
theorem dX8_doStep_30 : decode cX8_doStep 30 = .ok (.aload_n 0, 1) := by decide +kernel
theorem dX8_doStep_31 : decode cX8_doStep 31 = .ok (.getfield 45, 3) := by decide +kernel
theorem dX8_doStep_34 : decode cX8_doStep 34 = .ok (.iconst 1, 1) := by decide +kernel
theorem dX8_doStep_35 : decode cX8_doStep 35 = .ok (.if_icmp .ne 14, 3) := by decide +kernel
theorem dX8_doStep_38 : decode cX8_doStep 38 = .ok (.aload_n 0, 1) := by decide +kernel
theorem dX8_doStep_39 : decode cX8_doStep 39 = .ok (.getfield 51, 3) := by decide +kernel
theorem dX8_doStep_42 : decode cX8_doStep 42 = .ok (.aload_n 1, 1) := by decide +kernel
theorem dX8_doStep_43 : decode cX8_doStep 43 = .ok (.getfield 104, 3) := by decide +kernel
theorem dX8_doStep_46 : decode cX8_doStep 46 = .ok (.if_icmp .lt 4, 3) := by decide +kernel
theorem dX8_doStep_49 : decode cX8_doStep 49 = .ok (.return_, 1) := by decide +kernel
theorem dX8_doStep_50 : decode cX8_doStep 50 = .ok (.aload_n 0, 1) := by decide +kernel
theorem dX8_doStep_51 : decode cX8_doStep 51 = .ok (.aload_n 2, 1) := by decide +kernel
theorem dX8_doStep_52 : decode cX8_doStep 52 = .ok (.aload_n 0, 1) := by decide +kernel
theorem dX8_doStep_53 : decode cX8_doStep 53 = .ok (.aload_n 1, 1) := by decide +kernel
theorem dX8_doStep_54 : decode cX8_doStep 54 = .ok (.iload_n 3, 1) := by decide +kernel
theorem dX8_doStep_55 : decode cX8_doStep 55 = .ok (.invokevirtual 107, 3) := by decide +kernel
theorem dX8_doStep_58 : decode cX8_doStep 58 = .ok (.putfield 63, 3) := by decide +kernel
theorem dX8_doStep_61 : decode cX8_doStep 61 = .ok (.aload_n 2, 1) := by decide +kernel
theorem dX8_doStep_62 : decode cX8_doStep 62 = .ok (.aload_n 0, 1) := by decide +kernel
theorem dX8_doStep_63 : decode cX8_doStep 63 = .ok (.getfield 63, 3) := by decide +kernel
theorem dX8_doStep_66 : decode cX8_doStep 66 = .ok (.invokevirtual 113, 3) := by decide +kernel
theorem dX8_doStep_69 : decode cX8_doStep 69 = .ok (.istore 4, 2) := by decide +kernel
theorem dX8_doStep_71 : decode cX8_doStep 71 = .ok (.iload 4, 2) := by decide +kernel
theorem dX8_doStep_73 : decode cX8_doStep 73 = .ok (.ifCond .ne 12, 3) := by decide +kernel
theorem dX8_doStep_76 : decode cX8_doStep 76 = .ok (.aload_n 0, 1) := by decide +kernel
theorem dX8_doStep_77 : decode cX8_doStep 77 = .ok (.aload_n 1, 1) := by decide +kernel
theorem dX8_doStep_78 : decode cX8_doStep 78 = .ok (.iload_n 3, 1) := by decide +kernel
theorem dX8_doStep_79 : decode cX8_doStep 79 = .ok (.invokevirtual 117, 3) := by decide +kernel
theorem dX8_doStep_82 : decode cX8_doStep 82 = .ok (.goto 14, 3) := by decide +kernel
theorem dX8_doStep_85 : decode cX8_doStep 85 = .ok (.aload_n 0, 1) := by decide +kernel
theorem dX8_doStep_86 : decode cX8_doStep 86 = .ok (.iload 4, 2) := by decide +kernel
theorem dX8_doStep_88 : decode cX8_doStep 88 = .ok (.aload_n 1, 1) := by decide +kernel
theorem dX8_doStep_89 : decode cX8_doStep 89 = .ok (.iload_n 3, 1) := by decide +kernel
theorem dX8_doStep_90 : decode cX8_doStep 90 = .ok (.invokevirtual 121, 3) := by decide +kernel
theorem dX8_doStep_93 : decode cX8_doStep 93 = .ok (.invokevirtual 124, 3) := by decide +kernel
theorem dX8_doStep_96 : decode cX8_doStep 96 = .ok (.return_, 1) := by decide +kernel
theorem dX8_pause_0 : decode cX8_pause 0 = .ok (.iload_n 1, 1) := by decide +kernel
theorem dX8_pause_1 : decode cX8_pause 1 = .ok (.iconst 2, 1) := by decide +kernel
theorem dX8_pause_2 : decode cX8_pause 2 = .ok (.if_icmp .ne 32, 3) := by decide +kernel
theorem dX8_pause_5 : decode cX8_pause 5 = .ok (.aload_n 0, 1) := by decide +kernel
theorem dX8_pause_6 : decode cX8_pause 6 = .ok (.getfield 48, 3) := by decide +kernel
theorem dX8_pause_9 : decode cX8_pause 9 = .ok (.ifCond .le 25, 3) := by decide +kernel
theorem dX8_pause_12 : decode cX8_pause 12 = .ok (.aload_n 0, 1) := by decide +kernel
theorem dX8_pause_13 : decode cX8_pause 13 = .ok (.dup, 1) := by decide +kernel
theorem dX8_pause_14 : decode cX8_pause 14 = .ok (.getfield 48, 3) := by decide +kernel
theorem dX8_pause_17 : decode cX8_pause 17 = .ok (.iconst 1, 1) := by decide +kernel
theorem dX8_pause_18 : decode cX8_pause 18 = .ok (.isub, 1) := by decide +kernel
theorem dX8_pause_19 : decode cX8_pause 19 = .ok (.putfield 48, 3) := by decide +kernel
theorem dX8_pause_22 : decode cX8_pause 22 = .ok (.aload_n 0, 1) := by decide +kernel
theorem dX8_pause_23 : decode cX8_pause 23 = .ok (.getfield 12, 3) := by decide +kernel
theorem dX8_pause_26 : decode cX8_pause 26 = .ok (.bipush 120, 2) := by decide +kernel
theorem dX8_pause_28 : decode cX8_pause 28 = .ok (.invokevirtual 128, 3) := by decide +kernel
theorem dX8_pause_31 : decode cX8_pause 31 = .ok (.goto 37, 3) := by decide +kernel
theorem dX8_pause_34 : decode cX8_pause 34 = .ok (.iload_n 1, 1) := by decide +kernel
theorem dX8_pause_35 : decode cX8_pause 35 = .ok (.iconst 3, 1) := by decide +kernel
theorem dX8_pause_36 : decode cX8_pause 36 = .ok (.if_icmp .ne 32, 3) := by decide +kernel
theorem dX8_pause_39 : decode cX8_pause 39 = .ok (.aload_n 0, 1) := by decide +kernel
theorem dX8_pause_40 : decode cX8_pause 40 = .ok (.getfield 54, 3) := by decide +kernel
theorem dX8_pause_43 : decode cX8_pause 43 = .ok (.ifCond .ne 25, 3) := by decide +kernel
theorem dX8_pause_46 : decode cX8_pause 46 = .ok (.aload_n 0, 1) := by decide +kernel
theorem dX8_pause_47 : decode cX8_pause 47 = .ok (.getfield 12, 3) := by decide +kernel
theorem dX8_pause_50 : decode cX8_pause 50 = .ok (.getfield 131, 3) := by decide +kernel
theorem dX8_pause_53 : decode cX8_pause 53 = .ok (.iconst 1, 1) := by decide +kernel
theorem dX8_pause_54 : decode cX8_pause 54 = .ok (.if_icmp .le 14, 3) := by decide +kernel
theorem dX8_pause_57 : decode cX8_pause 57 = .ok (.aload_n 0, 1) := by decide +kernel
theorem dX8_pause_58 : decode cX8_pause 58 = .ok (.getfield 12, 3) := by decide +kernel
theorem dX8_pause_61 : decode cX8_pause 61 = .ok (.aload_n 0, 1) := by decide +kernel
theorem dX8_pause_62 : decode cX8_pause 62 = .ok (.getfield 51, 3) := by decide +kernel
theorem dX8_pause_65 : decode cX8_pause 65 = .ok (.invokevirtual 134, 3) := by decide +kernel
theorem dX8_pause_68 : decode cX8_pause 68 = .ok (.aload_n 0, 1) := by decide +kernel
theorem dX8_pause_69 : decode cX8_pause 69 = .ok (.getfield 12, 3) := by decide +kernel
theorem dX8_pause_72 : decode cX8_pause 72 = .ok (.iload_n 2, 1) := by decide +kernel
theorem dX8_pause_73 : decode cX8_pause 73 = .ok (.invokestatic 137, 3) := by decide +kernel
theorem dX8_pause_76 : decode cX8_pause 76 = .ok (.invokevirtual 128, 3) := by decide +kernel
theorem dX8_pause_79 : decode cX8_pause 79 = .ok (.aload_n 0, 1) := by decide +kernel
theorem dX8_pause_80 : decode cX8_pause 80 = .ok (.dup, 1) := by decide +kernel
theorem dX8_pause_81 : decode cX8_pause 81 = .ok (.getfield 60, 3) := by decide +kernel
theorem dX8_pause_84 : decode cX8_pause 84 = .ok (.iconst 1, 1) := by decide +kernel
theorem dX8_pause_85 : decode cX8_pause 85 = .ok (.iadd, 1) := by decide +kernel
theorem dX8_pause_86 : decode cX8_pause 86 = .ok (.putfield 60, 3) := by decide +kernel
theorem dX8_pause_89 : decode cX8_pause 89 = .ok (.aload_n 0, 1) := by decide +kernel
theorem dX8_pause_90 : decode cX8_pause 90 = .ok (.iconst 0, 1) := by decide +kernel
theorem dX8_pause_91 : decode cX8_pause 91 = .ok (.putfield 57, 3) := by decide +kernel
theorem dX8_pause_94 : decode cX8_pause 94 = .ok (.return_, 1) := by decide +kernel
theorem dX8_restGain_0 : decode cX8_restGain 0 = .ok (.iload_n 0, 1) := by decide +kernel
theorem dX8_restGain_1 : decode cX8_restGain 1 = .ok (.bipush (-30), 2) := by decide +kernel
theorem dX8_restGain_3 : decode cX8_restGain 3 = .ok (.if_icmp .ge 6, 3) := by decide +kernel
theorem dX8_restGain_6 : decode cX8_restGain 6 = .ok (.bipush 10, 2) := by decide +kernel
theorem dX8_restGain_8 : decode cX8_restGain 8 = .ok (.ireturn, 1) := by decide +kernel
theorem dX8_restGain_9 : decode cX8_restGain 9 = .ok (.iload_n 0, 1) := by decide +kernel
theorem dX8_restGain_10 : decode cX8_restGain 10 = .ok (.bipush (-5), 2) := by decide +kernel
theorem dX8_restGain_12 : decode cX8_restGain 12 = .ok (.if_icmp .le 8, 3) := by decide +kernel
theorem dX8_restGain_15 : decode cX8_restGain 15 = .ok (.bipush 12, 2) := by decide +kernel
theorem dX8_restGain_17 : decode cX8_restGain 17 = .ok (.goto 5, 3) := by decide +kernel
theorem dX8_restGain_20 : decode cX8_restGain 20 = .ok (.bipush 15, 2) := by decide +kernel
theorem dX8_restGain_22 : decode cX8_restGain 22 = .ok (.ireturn, 1) := by decide +kernel
theorem dX8_goOn_0 : decode cX8_goOn 0 = .ok (.aload_n 1, 1) := by decide +kernel
theorem dX8_goOn_1 : decode cX8_goOn 1 = .ok (.getfield 140, 3) := by decide +kernel
theorem dX8_goOn_4 : decode cX8_goOn 4 = .ok (.aload_n 0, 1) := by decide +kernel
theorem dX8_goOn_5 : decode cX8_goOn 5 = .ok (.getfield 51, 3) := by decide +kernel
theorem dX8_goOn_8 : decode cX8_goOn 8 = .ok (.iaload, 1) := by decide +kernel
theorem dX8_goOn_9 : decode cX8_goOn 9 = .ok (.istore_n 3, 1) := by decide +kernel
theorem dX8_goOn_10 : decode cX8_goOn 10 = .ok (.aload_n 0, 1) := by decide +kernel
theorem dX8_goOn_11 : decode cX8_goOn 11 = .ok (.getfield 54, 3) := by decide +kernel
theorem dX8_goOn_14 : decode cX8_goOn 14 = .ok (.ifCond .ne 26, 3) := by decide +kernel
theorem dX8_goOn_17 : decode cX8_goOn 17 = .ok (.aload_n 0, 1) := by decide +kernel
theorem dX8_goOn_18 : decode cX8_goOn 18 = .ok (.getfield 29, 3) := by decide +kernel
theorem dX8_goOn_21 : decode cX8_goOn 21 = .ok (.aload_n 0, 1) := by decide +kernel
theorem dX8_goOn_22 : decode cX8_goOn 22 = .ok (.getfield 51, 3) := by decide +kernel
theorem dX8_goOn_25 : decode cX8_goOn 25 = .ok (.iaload, 1) := by decide +kernel
theorem dX8_goOn_26 : decode cX8_goOn 26 = .ok (.iconst (-1), 1) := by decide +kernel
theorem dX8_goOn_27 : decode cX8_goOn 27 = .ok (.if_icmp .ne 13, 3) := by decide +kernel
theorem dX8_goOn_30 : decode cX8_goOn 30 = .ok (.aload_n 0, 1) := by decide +kernel
theorem dX8_goOn_31 : decode cX8_goOn 31 = .ok (.getfield 29, 3) := by decide +kernel
theorem dX8_goOn_34 : decode cX8_goOn 34 = .ok (.aload_n 0, 1) := by decide +kernel
theorem dX8_goOn_35 : decode cX8_goOn 35 = .ok (.getfield 51, 3) := by decide +kernel
theorem dX8_goOn_38 : decode cX8_goOn 38 = .ok (.iload_n 2, 1) := by decide +kernel
theorem dX8_goOn_39 : decode cX8_goOn 39 = .ok (.iastore, 1) := by decide +kernel
theorem dX8_goOn_40 : decode cX8_goOn 40 = .ok (.aload_n 0, 1) := by decide +kernel
theorem dX8_goOn_41 : decode cX8_goOn 41 = .ok (.dup, 1) := by decide +kernel
theorem dX8_goOn_42 : decode cX8_goOn 42 = .ok (.getfield 57, 3) := by decide +kernel
theorem dX8_goOn_45 : decode cX8_goOn 45 = .ok (.iconst 1, 1) := by decide +kernel
theorem dX8_goOn_46 : decode cX8_goOn 46 = .ok (.iadd, 1) := by decide +kernel
theorem dX8_goOn_47 : decode cX8_goOn 47 = .ok (.putfield 57, 3) := by decide +kernel
theorem dX8_goOn_50 : decode cX8_goOn 50 = .ok (.aload_n 0, 1) := by decide +kernel
theorem dX8_goOn_51 : decode cX8_goOn 51 = .ok (.iconst 0, 1) := by decide +kernel
theorem dX8_goOn_52 : decode cX8_goOn 52 = .ok (.putfield 60, 3) := by decide +kernel
theorem dX8_goOn_55 : decode cX8_goOn 55 = .ok (.aload_n 0, 1) := by decide +kernel
theorem dX8_goOn_56 : decode cX8_goOn 56 = .ok (.getfield 12, 3) := by decide +kernel
theorem dX8_goOn_59 : decode cX8_goOn 59 = .ok (.bipush 6, 2) := by decide +kernel
theorem dX8_goOn_61 : decode cX8_goOn 61 = .ok (.aload_n 0, 1) := by decide +kernel
theorem dX8_goOn_62 : decode cX8_goOn 62 = .ok (.invokevirtual 143, 3) := by decide +kernel
theorem dX8_goOn_65 : decode cX8_goOn 65 = .ok (.bipush 40, 2) := by decide +kernel
theorem dX8_goOn_67 : decode cX8_goOn 67 = .ok (.idiv, 1) := by decide +kernel
theorem dX8_goOn_68 : decode cX8_goOn 68 = .ok (.iadd, 1) := by decide +kernel
theorem dX8_goOn_69 : decode cX8_goOn 69 = .ok (.iload_n 3, 1) := by decide +kernel
theorem dX8_goOn_70 : decode cX8_goOn 70 = .ok (.bipush 25, 2) := by decide +kernel
theorem dX8_goOn_72 : decode cX8_goOn 72 = .ok (.idiv, 1) := by decide +kernel
theorem dX8_goOn_73 : decode cX8_goOn 73 = .ok (.iadd, 1) := by decide +kernel
theorem dX8_goOn_74 : decode cX8_goOn 74 = .ok (.aload_n 1, 1) := by decide +kernel
theorem dX8_goOn_75 : decode cX8_goOn 75 = .ok (.iload_n 2, 1) := by decide +kernel
theorem dX8_goOn_76 : decode cX8_goOn 76 = .ok (.invokevirtual 121, 3) := by decide +kernel
theorem dX8_goOn_79 : decode cX8_goOn 79 = .ok (.invokestatic 147, 3) := by decide +kernel
theorem dX8_goOn_82 : decode cX8_goOn 82 = .ok (.iadd, 1) := by decide +kernel
theorem dX8_goOn_83 : decode cX8_goOn 83 = .ok (.invokevirtual 150, 3) := by decide +kernel
theorem dX8_goOn_86 : decode cX8_goOn 86 = .ok (.aload_n 0, 1) := by decide +kernel
theorem dX8_goOn_87 : decode cX8_goOn 87 = .ok (.getfield 12, 3) := by decide +kernel
theorem dX8_goOn_90 : decode cX8_goOn 90 = .ok (.getfield 131, 3) := by decide +kernel
theorem dX8_goOn_93 : decode cX8_goOn 93 = .ok (.ifCond .ne 9, 3) := by decide +kernel
theorem dX8_goOn_96 : decode cX8_goOn 96 = .ok (.aload_n 0, 1) := by decide +kernel
theorem dX8_goOn_97 : decode cX8_goOn 97 = .ok (.iconst 3, 1) := by decide +kernel
theorem dX8_goOn_98 : decode cX8_goOn 98 = .ok (.putfield 45, 3) := by decide +kernel
theorem dX8_goOn_101 : decode cX8_goOn 101 = .ok (.return_, 1) := by decide +kernel
theorem dX8_goOn_102 : decode cX8_goOn 102 = .ok (.aload_n 0, 1) := by decide +kernel
theorem dX8_goOn_103 : decode cX8_goOn 103 = .ok (.dup, 1) := by decide +kernel
theorem dX8_goOn_104 : decode cX8_goOn 104 = .ok (.getfield 54, 3) := by decide +kernel
theorem dX8_goOn_107 : decode cX8_goOn 107 = .ok (.aload_n 0, 1) := by decide +kernel
theorem dX8_goOn_108 : decode cX8_goOn 108 = .ok (.iload_n 3, 1) := by decide +kernel
theorem dX8_goOn_109 : decode cX8_goOn 109 = .ok (.invokevirtual 153, 3) := by decide +kernel
theorem dX8_goOn_112 : decode cX8_goOn 112 = .ok (.iadd, 1) := by decide +kernel
theorem dX8_goOn_113 : decode cX8_goOn 113 = .ok (.putfield 54, 3) := by decide +kernel
theorem dX8_goOn_116 : decode cX8_goOn 116 = .ok (.aload_n 0, 1) := by decide +kernel
theorem dX8_goOn_117 : decode cX8_goOn 117 = .ok (.getfield 54, 3) := by decide +kernel
theorem dX8_goOn_120 : decode cX8_goOn 120 = .ok (.aload_n 1, 1) := by decide +kernel
theorem dX8_goOn_121 : decode cX8_goOn 121 = .ok (.aload_n 0, 1) := by decide +kernel
theorem dX8_goOn_122 : decode cX8_goOn 122 = .ok (.getfield 51, 3) := by decide +kernel
theorem dX8_goOn_125 : decode cX8_goOn 125 = .ok (.invokevirtual 156, 3) := by decide +kernel
theorem dX8_goOn_128 : decode cX8_goOn 128 = .ok (.if_icmp .lt 14, 3) := by decide +kernel
theorem dX8_goOn_131 : decode cX8_goOn 131 = .ok (.aload_n 0, 1) := by decide +kernel
theorem dX8_goOn_132 : decode cX8_goOn 132 = .ok (.aload_n 1, 1) := by decide +kernel
theorem dX8_goOn_133 : decode cX8_goOn 133 = .ok (.getfield 104, 3) := by decide +kernel
theorem dX8_goOn_136 : decode cX8_goOn 136 = .ok (.iload_n 2, 1) := by decide +kernel
theorem dX8_goOn_137 : decode cX8_goOn 137 = .ok (.iconst 1, 1) := by decide +kernel
theorem dX8_goOn_138 : decode cX8_goOn 138 = .ok (.iadd, 1) := by decide +kernel
theorem dX8_goOn_139 : decode cX8_goOn 139 = .ok (.invokevirtual 159, 3) := by decide +kernel
theorem dX8_goOn_142 : decode cX8_goOn 142 = .ok (.return_, 1) := by decide +kernel
theorem dX8_heatLoss_0 : decode cX8_heatLoss 0 = .ok (.iload_n 0, 1) := by decide +kernel
theorem dX8_heatLoss_1 : decode cX8_heatLoss 1 = .ok (.bipush (-10), 2) := by decide +kernel
theorem dX8_heatLoss_3 : decode cX8_heatLoss 3 = .ok (.if_icmp .le 12, 3) := by decide +kernel
theorem dX8_heatLoss_6 : decode cX8_heatLoss 6 = .ok (.iload_n 0, 1) := by decide +kernel
theorem dX8_heatLoss_7 : decode cX8_heatLoss 7 = .ok (.bipush 10, 2) := by decide +kernel
theorem dX8_heatLoss_9 : decode cX8_heatLoss 9 = .ok (.iadd, 1) := by decide +kernel
theorem dX8_heatLoss_10 : decode cX8_heatLoss 10 = .ok (.iconst 3, 1) := by decide +kernel
theorem dX8_heatLoss_11 : decode cX8_heatLoss 11 = .ok (.idiv, 1) := by decide +kernel
theorem dX8_heatLoss_12 : decode cX8_heatLoss 12 = .ok (.goto 4, 3) := by decide +kernel
theorem dX8_heatLoss_15 : decode cX8_heatLoss 15 = .ok (.iconst 0, 1) := by decide +kernel
theorem dX8_heatLoss_16 : decode cX8_heatLoss 16 = .ok (.ireturn, 1) := by decide +kernel
theorem dX8_reach_0 : decode cX8_reach 0 = .ok (.bipush 30, 2) := by decide +kernel
theorem dX8_reach_2 : decode cX8_reach 2 = .ok (.aload_n 0, 1) := by decide +kernel
theorem dX8_reach_3 : decode cX8_reach 3 = .ok (.getfield 12, 3) := by decide +kernel
theorem dX8_reach_6 : decode cX8_reach 6 = .ok (.invokevirtual 162, 3) := by decide +kernel
theorem dX8_reach_9 : decode cX8_reach 9 = .ok (.imul, 1) := by decide +kernel
theorem dX8_reach_10 : decode cX8_reach 10 = .ok (.aload_n 0, 1) := by decide +kernel
theorem dX8_reach_11 : decode cX8_reach 11 = .ok (.getfield 12, 3) := by decide +kernel
theorem dX8_reach_14 : decode cX8_reach 14 = .ok (.getfield 131, 3) := by decide +kernel
theorem dX8_reach_17 : decode cX8_reach 17 = .ok (.imul, 1) := by decide +kernel
theorem dX8_reach_18 : decode cX8_reach 18 = .ok (.bipush 100, 2) := by decide +kernel
theorem dX8_reach_20 : decode cX8_reach 20 = .ok (.imul, 1) := by decide +kernel
theorem dX8_reach_21 : decode cX8_reach 21 = .ok (.sipush 1000, 3) := by decide +kernel
theorem dX8_reach_24 : decode cX8_reach 24 = .ok (.iload_n 1, 1) := by decide +kernel
theorem dX8_reach_25 : decode cX8_reach 25 = .ok (.imul, 1) := by decide +kernel
theorem dX8_reach_26 : decode cX8_reach 26 = .ok (.invokestatic 165, 3) := by decide +kernel
theorem dX8_reach_29 : decode cX8_reach 29 = .ok (.istore_n 2, 1) := by decide +kernel
theorem dX8_reach_30 : decode cX8_reach 30 = .ok (.iload_n 2, 1) := by decide +kernel
theorem dX8_reach_31 : decode cX8_reach 31 = .ok (.bipush 20, 2) := by decide +kernel
theorem dX8_reach_33 : decode cX8_reach 33 = .ok (.imul, 1) := by decide +kernel
theorem dX8_reach_34 : decode cX8_reach 34 = .ok (.bipush 20, 2) := by decide +kernel
theorem dX8_reach_36 : decode cX8_reach 36 = .ok (.aload_n 0, 1) := by decide +kernel
theorem dX8_reach_37 : decode cX8_reach 37 = .ok (.getfield 12, 3) := by decide +kernel
theorem dX8_reach_40 : decode cX8_reach 40 = .ok (.getfield 131, 3) := by decide +kernel
theorem dX8_reach_43 : decode cX8_reach 43 = .ok (.imul, 1) := by decide +kernel
theorem dX8_reach_44 : decode cX8_reach 44 = .ok (.aload_n 0, 1) := by decide +kernel
theorem dX8_reach_45 : decode cX8_reach 45 = .ok (.invokevirtual 143, 3) := by decide +kernel
theorem dX8_reach_48 : decode cX8_reach 48 = .ok (.iadd, 1) := by decide +kernel
theorem dX8_reach_49 : decode cX8_reach 49 = .ok (.invokestatic 165, 3) := by decide +kernel
theorem dX8_reach_52 : decode cX8_reach 52 = .ok (.ireturn, 1) := by decide +kernel
theorem dX8_arrive_0 : decode cX8_arrive 0 = .ok (.aload_n 0, 1) := by decide +kernel
theorem dX8_arrive_1 : decode cX8_arrive 1 = .ok (.dup, 1) := by decide +kernel
theorem dX8_arrive_2 : decode cX8_arrive 2 = .ok (.getfield 51, 3) := by decide +kernel
theorem dX8_arrive_5 : decode cX8_arrive 5 = .ok (.iconst 1, 1) := by decide +kernel
theorem dX8_arrive_6 : decode cX8_arrive 6 = .ok (.iadd, 1) := by decide +kernel
theorem dX8_arrive_7 : decode cX8_arrive 7 = .ok (.putfield 51, 3) := by decide +kernel
theorem dX8_arrive_10 : decode cX8_arrive 10 = .ok (.aload_n 0, 1) := by decide +kernel
theorem dX8_arrive_11 : decode cX8_arrive 11 = .ok (.iconst 0, 1) := by decide +kernel
theorem dX8_arrive_12 : decode cX8_arrive 12 = .ok (.putfield 54, 3) := by decide +kernel
theorem dX8_arrive_15 : decode cX8_arrive 15 = .ok (.aload_n 0, 1) := by decide +kernel
theorem dX8_arrive_16 : decode cX8_arrive 16 = .ok (.getfield 25, 3) := by decide +kernel
theorem dX8_arrive_19 : decode cX8_arrive 19 = .ok (.aload_n 0, 1) := by decide +kernel
theorem dX8_arrive_20 : decode cX8_arrive 20 = .ok (.getfield 51, 3) := by decide +kernel
theorem dX8_arrive_23 : decode cX8_arrive 23 = .ok (.iload_n 2, 1) := by decide +kernel
theorem dX8_arrive_24 : decode cX8_arrive 24 = .ok (.iastore, 1) := by decide +kernel
theorem dX8_arrive_25 : decode cX8_arrive 25 = .ok (.aload_n 0, 1) := by decide +kernel
theorem dX8_arrive_26 : decode cX8_arrive 26 = .ok (.getfield 12, 3) := by decide +kernel
theorem dX8_arrive_29 : decode cX8_arrive 29 = .ok (.aload_n 0, 1) := by decide +kernel
theorem dX8_arrive_30 : decode cX8_arrive 30 = .ok (.getfield 51, 3) := by decide +kernel
theorem dX8_arrive_33 : decode cX8_arrive 33 = .ok (.invokevirtual 169, 3) := by decide +kernel
theorem dX8_arrive_36 : decode cX8_arrive 36 = .ok (.aload_n 0, 1) := by decide +kernel
theorem dX8_arrive_37 : decode cX8_arrive 37 = .ok (.getfield 51, 3) := by decide +kernel
theorem dX8_arrive_40 : decode cX8_arrive 40 = .ok (.iload_n 1, 1) := by decide +kernel
theorem dX8_arrive_41 : decode cX8_arrive 41 = .ok (.if_icmp .lt 8, 3) := by decide +kernel
theorem dX8_arrive_44 : decode cX8_arrive 44 = .ok (.aload_n 0, 1) := by decide +kernel
theorem dX8_arrive_45 : decode cX8_arrive 45 = .ok (.iconst 2, 1) := by decide +kernel
theorem dX8_arrive_46 : decode cX8_arrive 46 = .ok (.putfield 45, 3) := by decide +kernel
theorem dX8_arrive_49 : decode cX8_arrive 49 = .ok (.return_, 1) := by decide +kernel
theorem dX9_init_0 : decode cX9_init 0 = .ok (.aload_n 0, 1) := by decide +kernel
theorem dX9_init_1 : decode cX9_init 1 = .ok (.invokespecial 3, 3) := by decide +kernel
theorem dX9_init_4 : decode cX9_init 4 = .ok (.aload_n 0, 1) := by decide +kernel
theorem dX9_init_5 : decode cX9_init 5 = .ok (.bipush 12, 2) := by decide +kernel
theorem dX9_init_7 : decode cX9_init 7 = .ok (.newarray .int, 2) := by decide +kernel
theorem dX9_init_9 : decode cX9_init 9 = .ok (.putfield 9, 3) := by decide +kernel
theorem dX9_init_12 : decode cX9_init 12 = .ok (.aload_n 0, 1) := by decide +kernel
theorem dX9_init_13 : decode cX9_init 13 = .ok (.bipush 12, 2) := by decide +kernel
theorem dX9_init_15 : decode cX9_init 15 = .ok (.newarray .int, 2) := by decide +kernel
theorem dX9_init_17 : decode cX9_init 17 = .ok (.putfield 15, 3) := by decide +kernel
theorem dX9_init_20 : decode cX9_init 20 = .ok (.aload_n 0, 1) := by decide +kernel
theorem dX9_init_21 : decode cX9_init 21 = .ok (.bipush 13, 2) := by decide +kernel
theorem dX9_init_23 : decode cX9_init 23 = .ok (.newarray .int, 2) := by decide +kernel
theorem dX9_init_25 : decode cX9_init 25 = .ok (.putfield 18, 3) := by decide +kernel
theorem dX9_init_28 : decode cX9_init 28 = .ok (.aload_n 0, 1) := by decide +kernel
theorem dX9_init_29 : decode cX9_init 29 = .ok (.sipush 334, 3) := by decide +kernel
theorem dX9_init_32 : decode cX9_init 32 = .ok (.newarray .int, 2) := by decide +kernel
theorem dX9_init_34 : decode cX9_init 34 = .ok (.putfield 21, 3) := by decide +kernel
theorem dX9_init_37 : decode cX9_init 37 = .ok (.aload_n 0, 1) := by decide +kernel
theorem dX9_init_38 : decode cX9_init 38 = .ok (.iconst 0, 1) := by decide +kernel
theorem dX9_init_39 : decode cX9_init 39 = .ok (.putfield 24, 3) := by decide +kernel
theorem dX9_init_42 : decode cX9_init 42 = .ok (.aload_n 0, 1) := by decide +kernel
theorem dX9_init_43 : decode cX9_init 43 = .ok (.getfield 21, 3) := by decide +kernel
theorem dX9_init_46 : decode cX9_init 46 = .ok (.bipush (-20), 2) := by decide +kernel
theorem dX9_init_48 : decode cX9_init 48 = .ok (.invokestatic 28, 3) := by decide +kernel
theorem dX9_init_51 : decode cX9_init 51 = .ok (.return_, 1) := by decide +kernel
theorem dX9_add_0 : decode cX9_add 0 = .ok (.aload_n 0, 1) := by decide +kernel
theorem dX9_add_1 : decode cX9_add 1 = .ok (.getfield 9, 3) := by decide +kernel
theorem dX9_add_4 : decode cX9_add 4 = .ok (.aload_n 0, 1) := by decide +kernel
theorem dX9_add_5 : decode cX9_add 5 = .ok (.getfield 24, 3) := by decide +kernel
theorem dX9_add_8 : decode cX9_add 8 = .ok (.iload_n 1, 1) := by decide +kernel
theorem dX9_add_9 : decode cX9_add 9 = .ok (.iastore, 1) := by decide +kernel
theorem dX9_add_10 : decode cX9_add 10 = .ok (.aload_n 0, 1) := by decide +kernel
theorem dX9_add_11 : decode cX9_add 11 = .ok (.getfield 15, 3) := by decide +kernel
theorem dX9_add_14 : decode cX9_add 14 = .ok (.aload_n 0, 1) := by decide +kernel
theorem dX9_add_15 : decode cX9_add 15 = .ok (.getfield 24, 3) := by decide +kernel
theorem dX9_add_18 : decode cX9_add 18 = .ok (.iload_n 2, 1) := by decide +kernel
theorem dX9_add_19 : decode cX9_add 19 = .ok (.iastore, 1) := by decide +kernel
theorem dX9_add_20 : decode cX9_add 20 = .ok (.aload_n 0, 1) := by decide +kernel
theorem dX9_add_21 : decode cX9_add 21 = .ok (.getfield 18, 3) := by decide +kernel
theorem dX9_add_24 : decode cX9_add 24 = .ok (.aload_n 0, 1) := by decide +kernel
theorem dX9_add_25 : decode cX9_add 25 = .ok (.getfield 24, 3) := by decide +kernel
theorem dX9_add_28 : decode cX9_add 28 = .ok (.iconst 1, 1) := by decide +kernel
theorem dX9_add_29 : decode cX9_add 29 = .ok (.iadd, 1) := by decide +kernel
theorem dX9_add_30 : decode cX9_add 30 = .ok (.aload_n 0, 1) := by decide +kernel
theorem dX9_add_31 : decode cX9_add 31 = .ok (.getfield 18, 3) := by decide +kernel
theorem dX9_add_34 : decode cX9_add 34 = .ok (.aload_n 0, 1) := by decide +kernel
theorem dX9_add_35 : decode cX9_add 35 = .ok (.getfield 24, 3) := by decide +kernel
theorem dX9_add_38 : decode cX9_add 38 = .ok (.iaload, 1) := by decide +kernel
theorem dX9_add_39 : decode cX9_add 39 = .ok (.iload_n 1, 1) := by decide +kernel
theorem dX9_add_40 : decode cX9_add 40 = .ok (.iadd, 1) := by decide +kernel
theorem dX9_add_41 : decode cX9_add 41 = .ok (.iastore, 1) := by decide +kernel
theorem dX9_add_42 : decode cX9_add 42 = .ok (.aload_n 0, 1) := by decide +kernel
theorem dX9_add_43 : decode cX9_add 43 = .ok (.dup, 1) := by decide +kernel
theorem dX9_add_44 : decode cX9_add 44 = .ok (.getfield 24, 3) := by decide +kernel
theorem dX9_add_47 : decode cX9_add 47 = .ok (.iconst 1, 1) := by decide +kernel
theorem dX9_add_48 : decode cX9_add 48 = .ok (.iadd, 1) := by decide +kernel
theorem dX9_add_49 : decode cX9_add 49 = .ok (.putfield 24, 3) := by decide +kernel
theorem dX9_add_52 : decode cX9_add 52 = .ok (.return_, 1) := by decide +kernel
theorem dX9_whole_0 : decode cX9_whole 0 = .ok (.aload_n 0, 1) := by decide +kernel
theorem dX9_whole_1 : decode cX9_whole 1 = .ok (.getfield 18, 3) := by decide +kernel
theorem dX9_whole_4 : decode cX9_whole 4 = .ok (.aload_n 0, 1) := by decide +kernel
theorem dX9_whole_5 : decode cX9_whole 5 = .ok (.getfield 24, 3) := by decide +kernel
theorem dX9_whole_8 : decode cX9_whole 8 = .ok (.iaload, 1) := by decide +kernel
theorem dX9_whole_9 : decode cX9_whole 9 = .ok (.ireturn, 1) := by decide +kernel
theorem dX9_lengthOf_0 : decode cX9_lengthOf 0 = .ok (.iload_n 1, 1) := by decide +kernel
theorem dX9_lengthOf_1 : decode cX9_lengthOf 1 = .ok (.ifCond .lt 20, 3) := by decide +kernel
theorem dX9_lengthOf_4 : decode cX9_lengthOf 4 = .ok (.iload_n 1, 1) := by decide +kernel
theorem dX9_lengthOf_5 : decode cX9_lengthOf 5 = .ok (.aload_n 0, 1) := by decide +kernel
theorem dX9_lengthOf_6 : decode cX9_lengthOf 6 = .ok (.getfield 24, 3) := by decide +kernel
theorem dX9_lengthOf_9 : decode cX9_lengthOf 9 = .ok (.if_icmp .ge 12, 3) := by decide +kernel
theorem dX9_lengthOf_12 : decode cX9_lengthOf 12 = .ok (.aload_n 0, 1) := by decide +kernel
theorem dX9_lengthOf_13 : decode cX9_lengthOf 13 = .ok (.getfield 9, 3) := by decide +kernel
theorem dX9_lengthOf_16 : decode cX9_lengthOf 16 = .ok (.iload_n 1, 1) := by decide +kernel
theorem dX9_lengthOf_17 : decode cX9_lengthOf 17 = .ok (.iaload, 1) := by decide +kernel
theorem dX9_lengthOf_18 : decode cX9_lengthOf 18 = .ok (.goto 4, 3) := by decide +kernel
theorem dX9_lengthOf_21 : decode cX9_lengthOf 21 = .ok (.iconst 0, 1) := by decide +kernel
theorem dX9_lengthOf_22 : decode cX9_lengthOf 22 = .ok (.ireturn, 1) := by decide +kernel
theorem dX9_coldIn_0 : decode cX9_coldIn 0 = .ok (.iload_n 1, 1) := by decide +kernel
theorem dX9_coldIn_1 : decode cX9_coldIn 1 = .ok (.bipush 6, 2) := by decide +kernel
theorem dX9_coldIn_3 : decode cX9_coldIn 3 = .ok (.idiv, 1) := by decide +kernel
theorem dX9_coldIn_4 : decode cX9_coldIn 4 = .ok (.istore_n 2, 1) := by decide +kernel
theorem dX9_coldIn_5 : decode cX9_coldIn 5 = .ok (.iload_n 2, 1) := by decide +kernel
theorem dX9_coldIn_6 : decode cX9_coldIn 6 = .ok (.ifCond .lt 19, 3) := by decide +kernel
theorem dX9_coldIn_9 : decode cX9_coldIn 9 = .ok (.iload_n 2, 1) := by decide +kernel
theorem dX9_coldIn_10 : decode cX9_coldIn 10 = .ok (.sipush 334, 3) := by decide +kernel
theorem dX9_coldIn_13 : decode cX9_coldIn 13 = .ok (.if_icmp .ge 12, 3) := by decide +kernel
theorem dX9_coldIn_16 : decode cX9_coldIn 16 = .ok (.aload_n 0, 1) := by decide +kernel
theorem dX9_coldIn_17 : decode cX9_coldIn 17 = .ok (.getfield 21, 3) := by decide +kernel
theorem dX9_coldIn_20 : decode cX9_coldIn 20 = .ok (.iload_n 2, 1) := by decide +kernel
theorem dX9_coldIn_21 : decode cX9_coldIn 21 = .ok (.iaload, 1) := by decide +kernel
theorem dX9_coldIn_22 : decode cX9_coldIn 22 = .ok (.goto 4, 3) := by decide +kernel
theorem dX9_coldIn_25 : decode cX9_coldIn 25 = .ok (.iconst 0, 1) := by decide +kernel
theorem dX9_coldIn_26 : decode cX9_coldIn 26 = .ok (.ireturn, 1) := by decide +kernel
theorem dX9_copyFrom_0 : decode cX9_copyFrom 0 = .ok (.aload_n 1, 1) := by decide +kernel
theorem dX9_copyFrom_1 : decode cX9_copyFrom 1 = .ok (.getfield 9, 3) := by decide +kernel
theorem dX9_copyFrom_4 : decode cX9_copyFrom 4 = .ok (.iconst 0, 1) := by decide +kernel
theorem dX9_copyFrom_5 : decode cX9_copyFrom 5 = .ok (.aload_n 0, 1) := by decide +kernel
theorem dX9_copyFrom_6 : decode cX9_copyFrom 6 = .ok (.getfield 9, 3) := by decide +kernel
theorem dX9_copyFrom_9 : decode cX9_copyFrom 9 = .ok (.iconst 0, 1) := by decide +kernel
theorem dX9_copyFrom_10 : decode cX9_copyFrom 10 = .ok (.bipush 12, 2) := by decide +kernel
theorem dX9_copyFrom_12 : decode cX9_copyFrom 12 = .ok (.invokestatic 34, 3) := by decide +kernel
theorem dX9_copyFrom_15 : decode cX9_copyFrom 15 = .ok (.aload_n 1, 1) := by decide +kernel
theorem dX9_copyFrom_16 : decode cX9_copyFrom 16 = .ok (.getfield 15, 3) := by decide +kernel
theorem dX9_copyFrom_19 : decode cX9_copyFrom 19 = .ok (.iconst 0, 1) := by decide +kernel
theorem dX9_copyFrom_20 : decode cX9_copyFrom 20 = .ok (.aload_n 0, 1) := by decide +kernel
theorem dX9_copyFrom_21 : decode cX9_copyFrom 21 = .ok (.getfield 15, 3) := by decide +kernel
theorem dX9_copyFrom_24 : decode cX9_copyFrom 24 = .ok (.iconst 0, 1) := by decide +kernel
theorem dX9_copyFrom_25 : decode cX9_copyFrom 25 = .ok (.bipush 12, 2) := by decide +kernel
theorem dX9_copyFrom_27 : decode cX9_copyFrom 27 = .ok (.invokestatic 34, 3) := by decide +kernel
theorem dX9_copyFrom_30 : decode cX9_copyFrom 30 = .ok (.aload_n 1, 1) := by decide +kernel
theorem dX9_copyFrom_31 : decode cX9_copyFrom 31 = .ok (.getfield 18, 3) := by decide +kernel
theorem dX9_copyFrom_34 : decode cX9_copyFrom 34 = .ok (.iconst 0, 1) := by decide +kernel
theorem dX9_copyFrom_35 : decode cX9_copyFrom 35 = .ok (.aload_n 0, 1) := by decide +kernel
theorem dX9_copyFrom_36 : decode cX9_copyFrom 36 = .ok (.getfield 18, 3) := by decide +kernel
theorem dX9_copyFrom_39 : decode cX9_copyFrom 39 = .ok (.iconst 0, 1) := by decide +kernel
theorem dX9_copyFrom_40 : decode cX9_copyFrom 40 = .ok (.bipush 13, 2) := by decide +kernel
theorem dX9_copyFrom_42 : decode cX9_copyFrom 42 = .ok (.invokestatic 34, 3) := by decide +kernel
theorem dX9_copyFrom_45 : decode cX9_copyFrom 45 = .ok (.aload_n 1, 1) := by decide +kernel
theorem dX9_copyFrom_46 : decode cX9_copyFrom 46 = .ok (.getfield 21, 3) := by decide +kernel
theorem dX9_copyFrom_49 : decode cX9_copyFrom 49 = .ok (.iconst 0, 1) := by decide +kernel
theorem dX9_copyFrom_50 : decode cX9_copyFrom 50 = .ok (.aload_n 0, 1) := by decide +kernel
theorem dX9_copyFrom_51 : decode cX9_copyFrom 51 = .ok (.getfield 21, 3) := by decide +kernel
theorem dX9_copyFrom_54 : decode cX9_copyFrom 54 = .ok (.iconst 0, 1) := by decide +kernel
theorem dX9_copyFrom_55 : decode cX9_copyFrom 55 = .ok (.sipush 334, 3) := by decide +kernel
theorem dX9_copyFrom_58 : decode cX9_copyFrom 58 = .ok (.invokestatic 34, 3) := by decide +kernel
theorem dX9_copyFrom_61 : decode cX9_copyFrom 61 = .ok (.aload_n 0, 1) := by decide +kernel
theorem dX9_copyFrom_62 : decode cX9_copyFrom 62 = .ok (.aload_n 1, 1) := by decide +kernel
theorem dX9_copyFrom_63 : decode cX9_copyFrom 63 = .ok (.getfield 24, 3) := by decide +kernel
theorem dX9_copyFrom_66 : decode cX9_copyFrom 66 = .ok (.putfield 24, 3) := by decide +kernel
theorem dX9_copyFrom_69 : decode cX9_copyFrom 69 = .ok (.return_, 1) := by decide +kernel
theorem dX11_init_0 : decode cX11_init 0 = .ok (.aload_n 0, 1) := by decide +kernel
theorem dX11_init_1 : decode cX11_init 1 = .ok (.aconst_null, 1) := by decide +kernel
theorem dX11_init_2 : decode cX11_init 2 = .ok (.aconst_null, 1) := by decide +kernel
theorem dX11_init_3 : decode cX11_init 3 = .ok (.iconst 0, 1) := by decide +kernel
theorem dX11_init_4 : decode cX11_init 4 = .ok (.iconst 0, 1) := by decide +kernel
theorem dX11_init_5 : decode cX11_init 5 = .ok (.invokespecial 1, 3) := by decide +kernel
theorem dX11_init_8 : decode cX11_init 8 = .ok (.return_, 1) := by decide +kernel
theorem dX12_init_0 : decode cX12_init 0 = .ok (.aload_n 0, 1) := by decide +kernel
theorem dX12_init_1 : decode cX12_init 1 = .ok (.invokespecial 3, 3) := by decide +kernel
theorem dX12_init_4 : decode cX12_init 4 = .ok (.aload_n 0, 1) := by decide +kernel
theorem dX12_init_5 : decode cX12_init 5 = .ok (.bipush 16, 2) := by decide +kernel
theorem dX12_init_7 : decode cX12_init 7 = .ok (.newarray .int, 2) := by decide +kernel
theorem dX12_init_9 : decode cX12_init 9 = .ok (.putfield 9, 3) := by decide +kernel
theorem dX12_init_12 : decode cX12_init 12 = .ok (.aload_n 0, 1) := by decide +kernel
theorem dX12_init_13 : decode cX12_init 13 = .ok (.bipush 16, 2) := by decide +kernel
theorem dX12_init_15 : decode cX12_init 15 = .ok (.newarray .int, 2) := by decide +kernel
theorem dX12_init_17 : decode cX12_init 17 = .ok (.putfield 15, 3) := by decide +kernel
theorem dX12_init_20 : decode cX12_init 20 = .ok (.aload_n 0, 1) := by decide +kernel
theorem dX12_init_21 : decode cX12_init 21 = .ok (.bipush 16, 2) := by decide +kernel
theorem dX12_init_23 : decode cX12_init 23 = .ok (.newarray .int, 2) := by decide +kernel
theorem dX12_init_25 : decode cX12_init 25 = .ok (.putfield 18, 3) := by decide +kernel
theorem dX12_init_28 : decode cX12_init 28 = .ok (.aload_n 0, 1) := by decide +kernel
theorem dX12_init_29 : decode cX12_init 29 = .ok (.bipush 13, 2) := by decide +kernel
theorem dX12_init_31 : decode cX12_init 31 = .ok (.newarray .int, 2) := by decide +kernel
theorem dX12_init_33 : decode cX12_init 33 = .ok (.putfield 21, 3) := by decide +kernel
theorem dX12_init_36 : decode cX12_init 36 = .ok (.aload_n 0, 1) := by decide +kernel
theorem dX12_init_37 : decode cX12_init 37 = .ok (.bipush 13, 2) := by decide +kernel
theorem dX12_init_39 : decode cX12_init 39 = .ok (.newarray .int, 2) := by decide +kernel
theorem dX12_init_41 : decode cX12_init 41 = .ok (.putfield 24, 3) := by decide +kernel
theorem dX12_init_44 : decode cX12_init 44 = .ok (.aload_n 0, 1) := by decide +kernel
theorem dX12_init_45 : decode cX12_init 45 = .ok (.sipush 2000, 3) := by decide +kernel
theorem dX12_init_48 : decode cX12_init 48 = .ok (.newarray .int, 2) := by decide +kernel
theorem dX12_init_50 : decode cX12_init 50 = .ok (.putfield 27, 3) := by decide +kernel
theorem dX12_init_53 : decode cX12_init 53 = .ok (.aload_n 0, 1) := by decide +kernel
theorem dX12_init_54 : decode cX12_init 54 = .ok (.sipush 2000, 3) := by decide +kernel
theorem dX12_init_57 : decode cX12_init 57 = .ok (.newarray .int, 2) := by decide +kernel
theorem dX12_init_59 : decode cX12_init 59 = .ok (.putfield 30, 3) := by decide +kernel
theorem dX12_init_62 : decode cX12_init 62 = .ok (.aload_n 0, 1) := by decide +kernel
theorem dX12_init_63 : decode cX12_init 63 = .ok (.iconst 4, 1) := by decide +kernel
theorem dX12_init_64 : decode cX12_init 64 = .ok (.newarray .int, 2) := by decide +kernel
theorem dX12_init_66 : decode cX12_init 66 = .ok (.putfield 33, 3) := by decide +kernel
theorem dX12_init_69 : decode cX12_init 69 = .ok (.aload_n 0, 1) := by decide +kernel
theorem dX12_init_70 : decode cX12_init 70 = .ok (.iconst 4, 1) := by decide +kernel
theorem dX12_init_71 : decode cX12_init 71 = .ok (.newarray .int, 2) := by decide +kernel
theorem dX12_init_73 : decode cX12_init 73 = .ok (.putfield 36, 3) := by decide +kernel
theorem dX12_init_76 : decode cX12_init 76 = .ok (.return_, 1) := by decide +kernel
theorem dX12_begin_0 : decode cX12_begin 0 = .ok (.aload_n 0, 1) := by decide +kernel
theorem dX12_begin_1 : decode cX12_begin 1 = .ok (.iload_n 1, 1) := by decide +kernel
theorem dX12_begin_2 : decode cX12_begin 2 = .ok (.putfield 39, 3) := by decide +kernel
theorem dX12_begin_5 : decode cX12_begin 5 = .ok (.aload_n 0, 1) := by decide +kernel
theorem dX12_begin_6 : decode cX12_begin 6 = .ok (.iload_n 2, 1) := by decide +kernel
theorem dX12_begin_7 : decode cX12_begin 7 = .ok (.putfield 43, 3) := by decide +kernel
theorem dX12_begin_10 : decode cX12_begin 10 = .ok (.aload_n 0, 1) := by decide +kernel
theorem dX12_begin_11 : decode cX12_begin 11 = .ok (.iload_n 3, 1) := by decide +kernel
theorem dX12_begin_12 : decode cX12_begin 12 = .ok (.putfield 46, 3) := by decide +kernel
theorem dX12_begin_15 : decode cX12_begin 15 = .ok (.aload_n 0, 1) := by decide +kernel
theorem dX12_begin_16 : decode cX12_begin 16 = .ok (.iload_n 2, 1) := by decide +kernel
theorem dX12_begin_17 : decode cX12_begin 17 = .ok (.putfield 49, 3) := by decide +kernel
theorem dX12_begin_20 : decode cX12_begin 20 = .ok (.aload_n 0, 1) := by decide +kernel
theorem dX12_begin_21 : decode cX12_begin 21 = .ok (.iload_n 3, 1) := by decide +kernel
theorem dX12_begin_22 : decode cX12_begin 22 = .ok (.putfield 52, 3) := by decide +kernel
theorem dX12_begin_25 : decode cX12_begin 25 = .ok (.aload_n 0, 1) := by decide +kernel
theorem dX12_begin_26 : decode cX12_begin 26 = .ok (.iload 4, 2) := by decide +kernel
theorem dX12_begin_28 : decode cX12_begin 28 = .ok (.putfield 55, 3) := by decide +kernel
theorem dX12_begin_31 : decode cX12_begin 31 = .ok (.aload_n 0, 1) := by decide +kernel
theorem dX12_begin_32 : decode cX12_begin 32 = .ok (.iload 5, 2) := by decide +kernel
theorem dX12_begin_34 : decode cX12_begin 34 = .ok (.putfield 58, 3) := by decide +kernel
theorem dX12_begin_37 : decode cX12_begin 37 = .ok (.aload_n 0, 1) := by decide +kernel
theorem dX12_begin_38 : decode cX12_begin 38 = .ok (.iconst 0, 1) := by decide +kernel
theorem dX12_begin_39 : decode cX12_begin 39 = .ok (.putfield 61, 3) := by decide +kernel
theorem dX12_begin_42 : decode cX12_begin 42 = .ok (.aload_n 0, 1) := by decide +kernel
theorem dX12_begin_43 : decode cX12_begin 43 = .ok (.iconst 0, 1) := by decide +kernel
theorem dX12_begin_44 : decode cX12_begin 44 = .ok (.putfield 64, 3) := by decide +kernel
theorem dX12_begin_47 : decode cX12_begin 47 = .ok (.aload_n 0, 1) := by decide +kernel
theorem dX12_begin_48 : decode cX12_begin 48 = .ok (.iconst 0, 1) := by decide +kernel
theorem dX12_begin_49 : decode cX12_begin 49 = .ok (.putfield 67, 3) := by decide +kernel
theorem dX12_begin_52 : decode cX12_begin 52 = .ok (.aload_n 0, 1) := by decide +kernel
theorem dX12_begin_53 : decode cX12_begin 53 = .ok (.iconst 0, 1) := by decide +kernel
theorem dX12_begin_54 : decode cX12_begin 54 = .ok (.putfield 70, 3) := by decide +kernel
theorem dX12_begin_57 : decode cX12_begin 57 = .ok (.aload_n 0, 1) := by decide +kernel
theorem dX12_begin_58 : decode cX12_begin 58 = .ok (.iconst 0, 1) := by decide +kernel
theorem dX12_begin_59 : decode cX12_begin 59 = .ok (.putfield 73, 3) := by decide +kernel
theorem dX12_begin_62 : decode cX12_begin 62 = .ok (.aload_n 0, 1) := by decide +kernel
theorem dX12_begin_63 : decode cX12_begin 63 = .ok (.iconst (-1), 1) := by decide +kernel
theorem dX12_begin_64 : decode cX12_begin 64 = .ok (.putfield 76, 3) := by decide +kernel
theorem dX12_begin_67 : decode cX12_begin 67 = .ok (.aload_n 0, 1) := by decide +kernel
theorem dX12_begin_68 : decode cX12_begin 68 = .ok (.iconst 0, 1) := by decide +kernel
theorem dX12_begin_69 : decode cX12_begin 69 = .ok (.putfield 79, 3) := by decide +kernel
theorem dX12_begin_72 : decode cX12_begin 72 = .ok (.aload_n 0, 1) := by decide +kernel
theorem dX12_begin_73 : decode cX12_begin 73 = .ok (.iconst 0, 1) := by decide +kernel
theorem dX12_begin_74 : decode cX12_begin 74 = .ok (.putfield 82, 3) := by decide +kernel
theorem dX12_begin_77 : decode cX12_begin 77 = .ok (.iconst 0, 1) := by decide +kernel
theorem dX12_begin_78 : decode cX12_begin 78 = .ok (.istore 6, 2) := by decide +kernel
theorem dX12_begin_80 : decode cX12_begin 80 = .ok (.iload 6, 2) := by decide +kernel
theorem dX12_begin_82 : decode cX12_begin 82 = .ok (.bipush 16, 2) := by decide +kernel
theorem dX12_begin_84 : decode cX12_begin 84 = .ok (.if_icmp .ge 35, 3) := by decide +kernel
theorem dX12_begin_87 : decode cX12_begin 87 = .ok (.aload_n 0, 1) := by decide +kernel
theorem dX12_begin_88 : decode cX12_begin 88 = .ok (.getfield 9, 3) := by decide +kernel
theorem dX12_begin_91 : decode cX12_begin 91 = .ok (.iload 6, 2) := by decide +kernel
theorem dX12_begin_93 : decode cX12_begin 93 = .ok (.sipush 1000, 3) := by decide +kernel
theorem dX12_begin_96 : decode cX12_begin 96 = .ok (.iastore, 1) := by decide +kernel
theorem dX12_begin_97 : decode cX12_begin 97 = .ok (.aload_n 0, 1) := by decide +kernel
theorem dX12_begin_98 : decode cX12_begin 98 = .ok (.getfield 15, 3) := by decide +kernel
theorem dX12_begin_101 : decode cX12_begin 101 = .ok (.iload 6, 2) := by decide +kernel
theorem dX12_begin_103 : decode cX12_begin 103 = .ok (.iconst 0, 1) := by decide +kernel
theorem dX12_begin_104 : decode cX12_begin 104 = .ok (.iastore, 1) := by decide +kernel
theorem dX12_begin_105 : decode cX12_begin 105 = .ok (.aload_n 0, 1) := by decide +kernel
theorem dX12_begin_106 : decode cX12_begin 106 = .ok (.getfield 18, 3) := by decide +kernel
theorem dX12_begin_109 : decode cX12_begin 109 = .ok (.iload 6, 2) := by decide +kernel
theorem dX12_begin_111 : decode cX12_begin 111 = .ok (.iconst (-1), 1) := by decide +kernel
theorem dX12_begin_112 : decode cX12_begin 112 = .ok (.iastore, 1) := by decide +kernel
theorem dX12_begin_113 : decode cX12_begin 113 = .ok (.iinc 6 1, 3) := by decide +kernel
theorem dX12_begin_116 : decode cX12_begin 116 = .ok (.goto (-36), 3) := by decide +kernel
theorem dX12_begin_119 : decode cX12_begin 119 = .ok (.iconst 0, 1) := by decide +kernel
theorem dX12_begin_120 : decode cX12_begin 120 = .ok (.istore 6, 2) := by decide +kernel
theorem dX12_begin_122 : decode cX12_begin 122 = .ok (.iload 6, 2) := by decide +kernel
theorem dX12_begin_124 : decode cX12_begin 124 = .ok (.bipush 12, 2) := by decide +kernel
theorem dX12_begin_126 : decode cX12_begin 126 = .ok (.if_icmp .gt 25, 3) := by decide +kernel
theorem dX12_begin_129 : decode cX12_begin 129 = .ok (.aload_n 0, 1) := by decide +kernel
theorem dX12_begin_130 : decode cX12_begin 130 = .ok (.getfield 21, 3) := by decide +kernel
theorem dX12_begin_133 : decode cX12_begin 133 = .ok (.iload 6, 2) := by decide +kernel
theorem dX12_begin_135 : decode cX12_begin 135 = .ok (.iconst (-1), 1) := by decide +kernel
theorem dX12_begin_136 : decode cX12_begin 136 = .ok (.iastore, 1) := by decide +kernel
theorem dX12_begin_137 : decode cX12_begin 137 = .ok (.aload_n 0, 1) := by decide +kernel
theorem dX12_begin_138 : decode cX12_begin 138 = .ok (.getfield 24, 3) := by decide +kernel
theorem dX12_begin_141 : decode cX12_begin 141 = .ok (.iload 6, 2) := by decide +kernel
theorem dX12_begin_143 : decode cX12_begin 143 = .ok (.iconst (-1), 1) := by decide +kernel
theorem dX12_begin_144 : decode cX12_begin 144 = .ok (.iastore, 1) := by decide +kernel
theorem dX12_begin_145 : decode cX12_begin 145 = .ok (.iinc 6 1, 3) := by decide +kernel
theorem dX12_begin_148 : decode cX12_begin 148 = .ok (.goto (-26), 3) := by decide +kernel
theorem dX12_begin_151 : decode cX12_begin 151 = .ok (.return_, 1) := by decide +kernel
theorem dX12_become_0 : decode cX12_become 0 = .ok (.aload_n 0, 1) := by decide +kernel
theorem dX12_become_1 : decode cX12_become 1 = .ok (.aload_n 1, 1) := by decide +kernel
theorem dX12_become_2 : decode cX12_become 2 = .ok (.getfield 39, 3) := by decide +kernel
theorem dX12_become_5 : decode cX12_become 5 = .ok (.aload_n 1, 1) := by decide +kernel
theorem dX12_become_6 : decode cX12_become 6 = .ok (.getfield 43, 3) := by decide +kernel
theorem dX12_become_9 : decode cX12_become 9 = .ok (.aload_n 1, 1) := by decide +kernel
theorem dX12_become_10 : decode cX12_become 10 = .ok (.getfield 46, 3) := by decide +kernel
theorem dX12_become_13 : decode cX12_become 13 = .ok (.aload_n 1, 1) := by decide +kernel
theorem dX12_become_14 : decode cX12_become 14 = .ok (.getfield 55, 3) := by decide +kernel
theorem dX12_become_17 : decode cX12_become 17 = .ok (.aload_n 1, 1) := by decide +kernel
theorem dX12_become_18 : decode cX12_become 18 = .ok (.getfield 58, 3) := by decide +kernel
theorem dX12_become_21 : decode cX12_become 21 = .ok (.invokevirtual 85, 3) := by decide +kernel
theorem dX12_become_24 : decode cX12_become 24 = .ok (.aload_n 0, 1) := by decide +kernel
theorem dX12_become_25 : decode cX12_become 25 = .ok (.aload_n 1, 1) := by decide +kernel
theorem dX12_become_26 : decode cX12_become 26 = .ok (.getfield 49, 3) := by decide +kernel
theorem dX12_become_29 : decode cX12_become 29 = .ok (.putfield 49, 3) := by decide +kernel
theorem dX12_become_32 : decode cX12_become 32 = .ok (.aload_n 0, 1) := by decide +kernel
theorem dX12_become_33 : decode cX12_become 33 = .ok (.aload_n 1, 1) := by decide +kernel
theorem dX12_become_34 : decode cX12_become 34 = .ok (.getfield 52, 3) := by decide +kernel
theorem dX12_become_37 : decode cX12_become 37 = .ok (.putfield 52, 3) := by decide +kernel
theorem dX12_become_40 : decode cX12_become 40 = .ok (.aload_n 0, 1) := by decide +kernel
theorem dX12_become_41 : decode cX12_become 41 = .ok (.aload_n 1, 1) := by decide +kernel
theorem dX12_become_42 : decode cX12_become 42 = .ok (.getfield 61, 3) := by decide +kernel
theorem dX12_become_45 : decode cX12_become 45 = .ok (.putfield 61, 3) := by decide +kernel
theorem dX12_become_48 : decode cX12_become 48 = .ok (.aload_n 0, 1) := by decide +kernel
theorem dX12_become_49 : decode cX12_become 49 = .ok (.aload_n 1, 1) := by decide +kernel
theorem dX12_become_50 : decode cX12_become 50 = .ok (.getfield 64, 3) := by decide +kernel
theorem dX12_become_53 : decode cX12_become 53 = .ok (.putfield 64, 3) := by decide +kernel
theorem dX12_become_56 : decode cX12_become 56 = .ok (.aload_n 0, 1) := by decide +kernel
theorem dX12_become_57 : decode cX12_become 57 = .ok (.aload_n 1, 1) := by decide +kernel
theorem dX12_become_58 : decode cX12_become 58 = .ok (.getfield 67, 3) := by decide +kernel
theorem dX12_become_61 : decode cX12_become 61 = .ok (.putfield 67, 3) := by decide +kernel
theorem dX12_become_64 : decode cX12_become 64 = .ok (.aload_n 0, 1) := by decide +kernel
theorem dX12_become_65 : decode cX12_become 65 = .ok (.aload_n 1, 1) := by decide +kernel
theorem dX12_become_66 : decode cX12_become 66 = .ok (.getfield 70, 3) := by decide +kernel
theorem dX12_become_69 : decode cX12_become 69 = .ok (.putfield 70, 3) := by decide +kernel
theorem dX12_become_72 : decode cX12_become 72 = .ok (.aload_n 0, 1) := by decide +kernel
theorem dX12_become_73 : decode cX12_become 73 = .ok (.aload_n 1, 1) := by decide +kernel
theorem dX12_become_74 : decode cX12_become 74 = .ok (.getfield 73, 3) := by decide +kernel
theorem dX12_become_77 : decode cX12_become 77 = .ok (.putfield 73, 3) := by decide +kernel
theorem dX12_become_80 : decode cX12_become 80 = .ok (.aload_n 0, 1) := by decide +kernel
theorem dX12_become_81 : decode cX12_become 81 = .ok (.aload_n 1, 1) := by decide +kernel
theorem dX12_become_82 : decode cX12_become 82 = .ok (.getfield 76, 3) := by decide +kernel
theorem dX12_become_85 : decode cX12_become 85 = .ok (.putfield 76, 3) := by decide +kernel
theorem dX12_become_88 : decode cX12_become 88 = .ok (.aload_n 0, 1) := by decide +kernel
theorem dX12_become_89 : decode cX12_become 89 = .ok (.aload_n 1, 1) := by decide +kernel
theorem dX12_become_90 : decode cX12_become 90 = .ok (.getfield 79, 3) := by decide +kernel
theorem dX12_become_93 : decode cX12_become 93 = .ok (.putfield 79, 3) := by decide +kernel
theorem dX12_become_96 : decode cX12_become 96 = .ok (.aload_n 0, 1) := by decide +kernel
theorem dX12_become_97 : decode cX12_become 97 = .ok (.aload_n 1, 1) := by decide +kernel
theorem dX12_become_98 : decode cX12_become 98 = .ok (.getfield 82, 3) := by decide +kernel
theorem dX12_become_101 : decode cX12_become 101 = .ok (.putfield 82, 3) := by decide +kernel
theorem dX12_become_104 : decode cX12_become 104 = .ok (.iconst 0, 1) := by decide +kernel
theorem dX12_become_105 : decode cX12_become 105 = .ok (.istore_n 2, 1) := by decide +kernel
theorem dX12_become_106 : decode cX12_become 106 = .ok (.iload_n 2, 1) := by decide +kernel
theorem dX12_become_107 : decode cX12_become 107 = .ok (.bipush 16, 2) := by decide +kernel
theorem dX12_become_109 : decode cX12_become 109 = .ok (.if_icmp .ge 45, 3) := by decide +kernel
theorem dX12_become_112 : decode cX12_become 112 = .ok (.aload_n 0, 1) := by decide +kernel
theorem dX12_become_113 : decode cX12_become 113 = .ok (.getfield 9, 3) := by decide +kernel
theorem dX12_become_116 : decode cX12_become 116 = .ok (.iload_n 2, 1) := by decide +kernel
theorem dX12_become_117 : decode cX12_become 117 = .ok (.aload_n 1, 1) := by decide +kernel
theorem dX12_become_118 : decode cX12_become 118 = .ok (.getfield 9, 3) := by decide +kernel
theorem dX12_become_121 : decode cX12_become 121 = .ok (.iload_n 2, 1) := by decide +kernel
theorem dX12_become_122 : decode cX12_become 122 = .ok (.iaload, 1) := by decide +kernel
theorem dX12_become_123 : decode cX12_become 123 = .ok (.iastore, 1) := by decide +kernel
theorem dX12_become_124 : decode cX12_become 124 = .ok (.aload_n 0, 1) := by decide +kernel
theorem dX12_become_125 : decode cX12_become 125 = .ok (.getfield 15, 3) := by decide +kernel
theorem dX12_become_128 : decode cX12_become 128 = .ok (.iload_n 2, 1) := by decide +kernel
theorem dX12_become_129 : decode cX12_become 129 = .ok (.aload_n 1, 1) := by decide +kernel
theorem dX12_become_130 : decode cX12_become 130 = .ok (.getfield 15, 3) := by decide +kernel
theorem dX12_become_133 : decode cX12_become 133 = .ok (.iload_n 2, 1) := by decide +kernel
theorem dX12_become_134 : decode cX12_become 134 = .ok (.iaload, 1) := by decide +kernel
theorem dX12_become_135 : decode cX12_become 135 = .ok (.iastore, 1) := by decide +kernel
theorem dX12_become_136 : decode cX12_become 136 = .ok (.aload_n 0, 1) := by decide +kernel
theorem dX12_become_137 : decode cX12_become 137 = .ok (.getfield 18, 3) := by decide +kernel
theorem dX12_become_140 : decode cX12_become 140 = .ok (.iload_n 2, 1) := by decide +kernel
theorem dX12_become_141 : decode cX12_become 141 = .ok (.aload_n 1, 1) := by decide +kernel
theorem dX12_become_142 : decode cX12_become 142 = .ok (.getfield 18, 3) := by decide +kernel
theorem dX12_become_145 : decode cX12_become 145 = .ok (.iload_n 2, 1) := by decide +kernel
theorem dX12_become_146 : decode cX12_become 146 = .ok (.iaload, 1) := by decide +kernel
theorem dX12_become_147 : decode cX12_become 147 = .ok (.iastore, 1) := by decide +kernel
theorem dX12_become_148 : decode cX12_become 148 = .ok (.iinc 2 1, 3) := by decide +kernel
theorem dX12_become_151 : decode cX12_become 151 = .ok (.goto (-45), 3) := by decide +kernel
theorem dX12_become_154 : decode cX12_become 154 = .ok (.iconst 0, 1) := by decide +kernel
theorem dX12_become_155 : decode cX12_become 155 = .ok (.istore_n 2, 1) := by decide +kernel
theorem dX12_become_156 : decode cX12_become 156 = .ok (.iload_n 2, 1) := by decide +kernel
theorem dX12_become_157 : decode cX12_become 157 = .ok (.bipush 12, 2) := by decide +kernel
theorem dX12_become_159 : decode cX12_become 159 = .ok (.if_icmp .gt 33, 3) := by decide +kernel
theorem dX12_become_162 : decode cX12_become 162 = .ok (.aload_n 0, 1) := by decide +kernel
theorem dX12_become_163 : decode cX12_become 163 = .ok (.getfield 21, 3) := by decide +kernel
theorem dX12_become_166 : decode cX12_become 166 = .ok (.iload_n 2, 1) := by decide +kernel
theorem dX12_become_167 : decode cX12_become 167 = .ok (.aload_n 1, 1) := by decide +kernel
theorem dX12_become_168 : decode cX12_become 168 = .ok (.getfield 21, 3) := by decide +kernel
theorem dX12_become_171 : decode cX12_become 171 = .ok (.iload_n 2, 1) := by decide +kernel
theorem dX12_become_172 : decode cX12_become 172 = .ok (.iaload, 1) := by decide +kernel
theorem dX12_become_173 : decode cX12_become 173 = .ok (.iastore, 1) := by decide +kernel
theorem dX12_become_174 : decode cX12_become 174 = .ok (.aload_n 0, 1) := by decide +kernel
theorem dX12_become_175 : decode cX12_become 175 = .ok (.getfield 24, 3) := by decide +kernel
theorem dX12_become_178 : decode cX12_become 178 = .ok (.iload_n 2, 1) := by decide +kernel
theorem dX12_become_179 : decode cX12_become 179 = .ok (.aload_n 1, 1) := by decide +kernel
theorem dX12_become_180 : decode cX12_become 180 = .ok (.getfield 24, 3) := by decide +kernel
theorem dX12_become_183 : decode cX12_become 183 = .ok (.iload_n 2, 1) := by decide +kernel
theorem dX12_become_184 : decode cX12_become 184 = .ok (.iaload, 1) := by decide +kernel
theorem dX12_become_185 : decode cX12_become 185 = .ok (.iastore, 1) := by decide +kernel
theorem dX12_become_186 : decode cX12_become 186 = .ok (.iinc 2 1, 3) := by decide +kernel
theorem dX12_become_189 : decode cX12_become 189 = .ok (.goto (-33), 3) := by decide +kernel
theorem dX12_become_192 : decode cX12_become 192 = .ok (.iconst 0, 1) := by decide +kernel
theorem dX12_become_193 : decode cX12_become 193 = .ok (.istore_n 2, 1) := by decide +kernel
theorem dX12_become_194 : decode cX12_become 194 = .ok (.iload_n 2, 1) := by decide +kernel
theorem dX12_become_195 : decode cX12_become 195 = .ok (.aload_n 0, 1) := by decide +kernel
theorem dX12_become_196 : decode cX12_become 196 = .ok (.getfield 79, 3) := by decide +kernel
theorem dX12_become_199 : decode cX12_become 199 = .ok (.if_icmp .ge 33, 3) := by decide +kernel
theorem dX12_become_202 : decode cX12_become 202 = .ok (.aload_n 0, 1) := by decide +kernel
theorem dX12_become_203 : decode cX12_become 203 = .ok (.getfield 27, 3) := by decide +kernel
theorem dX12_become_206 : decode cX12_become 206 = .ok (.iload_n 2, 1) := by decide +kernel
theorem dX12_become_207 : decode cX12_become 207 = .ok (.aload_n 1, 1) := by decide +kernel
theorem dX12_become_208 : decode cX12_become 208 = .ok (.getfield 27, 3) := by decide +kernel
theorem dX12_become_211 : decode cX12_become 211 = .ok (.iload_n 2, 1) := by decide +kernel
theorem dX12_become_212 : decode cX12_become 212 = .ok (.iaload, 1) := by decide +kernel
theorem dX12_become_213 : decode cX12_become 213 = .ok (.iastore, 1) := by decide +kernel
theorem dX12_become_214 : decode cX12_become 214 = .ok (.aload_n 0, 1) := by decide +kernel
theorem dX12_become_215 : decode cX12_become 215 = .ok (.getfield 30, 3) := by decide +kernel
theorem dX12_become_218 : decode cX12_become 218 = .ok (.iload_n 2, 1) := by decide +kernel
theorem dX12_become_219 : decode cX12_become 219 = .ok (.aload_n 1, 1) := by decide +kernel
theorem dX12_become_220 : decode cX12_become 220 = .ok (.getfield 30, 3) := by decide +kernel
theorem dX12_become_223 : decode cX12_become 223 = .ok (.iload_n 2, 1) := by decide +kernel
theorem dX12_become_224 : decode cX12_become 224 = .ok (.iaload, 1) := by decide +kernel
theorem dX12_become_225 : decode cX12_become 225 = .ok (.iastore, 1) := by decide +kernel
theorem dX12_become_226 : decode cX12_become 226 = .ok (.iinc 2 1, 3) := by decide +kernel
theorem dX12_become_229 : decode cX12_become 229 = .ok (.goto (-35), 3) := by decide +kernel
theorem dX12_become_232 : decode cX12_become 232 = .ok (.iconst 0, 1) := by decide +kernel
theorem dX12_become_233 : decode cX12_become 233 = .ok (.istore_n 2, 1) := by decide +kernel
theorem dX12_become_234 : decode cX12_become 234 = .ok (.iload_n 2, 1) := by decide +kernel
theorem dX12_become_235 : decode cX12_become 235 = .ok (.aload_n 0, 1) := by decide +kernel
theorem dX12_become_236 : decode cX12_become 236 = .ok (.getfield 82, 3) := by decide +kernel
theorem dX12_become_239 : decode cX12_become 239 = .ok (.if_icmp .ge 33, 3) := by decide +kernel
theorem dX12_become_242 : decode cX12_become 242 = .ok (.aload_n 0, 1) := by decide +kernel
theorem dX12_become_243 : decode cX12_become 243 = .ok (.getfield 33, 3) := by decide +kernel
theorem dX12_become_246 : decode cX12_become 246 = .ok (.iload_n 2, 1) := by decide +kernel
theorem dX12_become_247 : decode cX12_become 247 = .ok (.aload_n 1, 1) := by decide +kernel
theorem dX12_become_248 : decode cX12_become 248 = .ok (.getfield 33, 3) := by decide +kernel
theorem dX12_become_251 : decode cX12_become 251 = .ok (.iload_n 2, 1) := by decide +kernel
theorem dX12_become_252 : decode cX12_become 252 = .ok (.iaload, 1) := by decide +kernel
theorem dX12_become_253 : decode cX12_become 253 = .ok (.iastore, 1) := by decide +kernel
theorem dX12_become_254 : decode cX12_become 254 = .ok (.aload_n 0, 1) := by decide +kernel
theorem dX12_become_255 : decode cX12_become 255 = .ok (.getfield 36, 3) := by decide +kernel
theorem dX12_become_258 : decode cX12_become 258 = .ok (.iload_n 2, 1) := by decide +kernel
theorem dX12_become_259 : decode cX12_become 259 = .ok (.aload_n 1, 1) := by decide +kernel
theorem dX12_become_260 : decode cX12_become 260 = .ok (.getfield 36, 3) := by decide +kernel
theorem dX12_become_263 : decode cX12_become 263 = .ok (.iload_n 2, 1) := by decide +kernel
theorem dX12_become_264 : decode cX12_become 264 = .ok (.iaload, 1) := by decide +kernel
theorem dX12_become_265 : decode cX12_become 265 = .ok (.iastore, 1) := by decide +kernel
theorem dX12_become_266 : decode cX12_become 266 = .ok (.iinc 2 1, 3) := by decide +kernel
theorem dX12_become_269 : decode cX12_become 269 = .ok (.goto (-35), 3) := by decide +kernel
theorem dX12_become_272 : decode cX12_become 272 = .ok (.return_, 1) := by decide +kernel
theorem dX12_of_0 : decode cX12_of 0 = .ok (.iconst 0, 1) := by decide +kernel
theorem dX12_of_1 : decode cX12_of 1 = .ok (.istore_n 2, 1) := by decide +kernel
theorem dX12_of_2 : decode cX12_of 2 = .ok (.iconst 0, 1) := by decide +kernel
theorem dX12_of_3 : decode cX12_of 3 = .ok (.istore_n 3, 1) := by decide +kernel
theorem dX12_of_4 : decode cX12_of 4 = .ok (.iload_n 3, 1) := by decide +kernel
theorem dX12_of_5 : decode cX12_of 5 = .ok (.aload_n 0, 1) := by decide +kernel
theorem dX12_of_6 : decode cX12_of 6 = .ok (.getfield 39, 3) := by decide +kernel
theorem dX12_of_9 : decode cX12_of 9 = .ok (.if_icmp .ge 27, 3) := by decide +kernel
theorem dX12_of_12 : decode cX12_of 12 = .ok (.iload_n 2, 1) := by decide +kernel
theorem dX12_of_13 : decode cX12_of 13 = .ok (.aload_n 0, 1) := by decide +kernel
theorem dX12_of_14 : decode cX12_of 14 = .ok (.getfield 15, 3) := by decide +kernel
theorem dX12_of_17 : decode cX12_of 17 = .ok (.iload_n 3, 1) := by decide +kernel
theorem dX12_of_18 : decode cX12_of 18 = .ok (.iaload, 1) := by decide +kernel
theorem dX12_of_19 : decode cX12_of 19 = .ok (.iload_n 1, 1) := by decide +kernel
theorem dX12_of_20 : decode cX12_of 20 = .ok (.if_icmp .ne 7, 3) := by decide +kernel
theorem dX12_of_23 : decode cX12_of 23 = .ok (.iconst 1, 1) := by decide +kernel
theorem dX12_of_24 : decode cX12_of 24 = .ok (.goto 4, 3) := by decide +kernel
theorem dX12_of_27 : decode cX12_of 27 = .ok (.iconst 0, 1) := by decide +kernel
theorem dX12_of_28 : decode cX12_of 28 = .ok (.iadd, 1) := by decide +kernel
theorem dX12_of_29 : decode cX12_of 29 = .ok (.istore_n 2, 1) := by decide +kernel
theorem dX12_of_30 : decode cX12_of 30 = .ok (.iinc 3 1, 3) := by decide +kernel
theorem dX12_of_33 : decode cX12_of 33 = .ok (.goto (-29), 3) := by decide +kernel
theorem dX12_of_36 : decode cX12_of 36 = .ok (.iload_n 2, 1) := by decide +kernel
theorem dX12_of_37 : decode cX12_of 37 = .ok (.ireturn, 1) := by decide +kernel
theorem dX12_weakest_0 : decode cX12_weakest 0 = .ok (.iconst (-1), 1) := by decide +kernel
theorem dX12_weakest_1 : decode cX12_weakest 1 = .ok (.istore_n 1, 1) := by decide +kernel
theorem dX12_weakest_2 : decode cX12_weakest 2 = .ok (.iconst 0, 1) := by decide +kernel
theorem dX12_weakest_3 : decode cX12_weakest 3 = .ok (.istore_n 2, 1) := by decide +kernel
theorem dX12_weakest_4 : decode cX12_weakest 4 = .ok (.iload_n 2, 1) := by decide +kernel
theorem dX12_weakest_5 : decode cX12_weakest 5 = .ok (.aload_n 0, 1) := by decide +kernel
theorem dX12_weakest_6 : decode cX12_weakest 6 = .ok (.getfield 39, 3) := by decide +kernel
theorem dX12_weakest_9 : decode cX12_weakest 9 = .ok (.if_icmp .ge 40, 3) := by decide +kernel
theorem dX12_weakest_12 : decode cX12_weakest 12 = .ok (.aload_n 0, 1) := by decide +kernel
theorem dX12_weakest_13 : decode cX12_weakest 13 = .ok (.getfield 15, 3) := by decide +kernel
theorem dX12_weakest_16 : decode cX12_weakest 16 = .ok (.iload_n 2, 1) := by decide +kernel
theorem dX12_weakest_17 : decode cX12_weakest 17 = .ok (.iaload, 1) := by decide +kernel
theorem dX12_weakest_18 : decode cX12_weakest 18 = .ok (.ifCond .ne 25, 3) := by decide +kernel
theorem dX12_weakest_21 : decode cX12_weakest 21 = .ok (.iload_n 1, 1) := by decide +kernel
theorem dX12_weakest_22 : decode cX12_weakest 22 = .ok (.iconst (-1), 1) := by decide +kernel
theorem dX12_weakest_23 : decode cX12_weakest 23 = .ok (.if_icmp .eq 18, 3) := by decide +kernel
theorem dX12_weakest_26 : decode cX12_weakest 26 = .ok (.aload_n 0, 1) := by decide +kernel
theorem dX12_weakest_27 : decode cX12_weakest 27 = .ok (.getfield 9, 3) := by decide +kernel
theorem dX12_weakest_30 : decode cX12_weakest 30 = .ok (.iload_n 2, 1) := by decide +kernel
theorem dX12_weakest_31 : decode cX12_weakest 31 = .ok (.iaload, 1) := by decide +kernel
theorem dX12_weakest_32 : decode cX12_weakest 32 = .ok (.aload_n 0, 1) := by decide +kernel
theorem dX12_weakest_33 : decode cX12_weakest 33 = .ok (.getfield 9, 3) := by decide +kernel
theorem dX12_weakest_36 : decode cX12_weakest 36 = .ok (.iload_n 1, 1) := by decide +kernel
theorem dX12_weakest_37 : decode cX12_weakest 37 = .ok (.iaload, 1) := by decide +kernel
theorem dX12_weakest_38 : decode cX12_weakest 38 = .ok (.if_icmp .ge 5, 3) := by decide +kernel
theorem dX12_weakest_41 : decode cX12_weakest 41 = .ok (.iload_n 2, 1) := by decide +kernel
theorem dX12_weakest_42 : decode cX12_weakest 42 = .ok (.istore_n 1, 1) := by decide +kernel
theorem dX12_weakest_43 : decode cX12_weakest 43 = .ok (.iinc 2 1, 3) := by decide +kernel
theorem dX12_weakest_46 : decode cX12_weakest 46 = .ok (.goto (-42), 3) := by decide +kernel
theorem dX12_weakest_49 : decode cX12_weakest 49 = .ok (.iload_n 1, 1) := by decide +kernel
theorem dX12_weakest_50 : decode cX12_weakest 50 = .ok (.ireturn, 1) := by decide +kernel
theorem dX12_mean_0 : decode cX12_mean 0 = .ok (.iconst 0, 1) := by decide +kernel
theorem dX12_mean_1 : decode cX12_mean 1 = .ok (.istore_n 1, 1) := by decide +kernel
theorem dX12_mean_2 : decode cX12_mean 2 = .ok (.iconst 0, 1) := by decide +kernel
theorem dX12_mean_3 : decode cX12_mean 3 = .ok (.istore_n 2, 1) := by decide +kernel
theorem dX12_mean_4 : decode cX12_mean 4 = .ok (.iload_n 2, 1) := by decide +kernel
theorem dX12_mean_5 : decode cX12_mean 5 = .ok (.aload_n 0, 1) := by decide +kernel
theorem dX12_mean_6 : decode cX12_mean 6 = .ok (.getfield 39, 3) := by decide +kernel
theorem dX12_mean_9 : decode cX12_mean 9 = .ok (.if_icmp .ge 31, 3) := by decide +kernel
theorem dX12_mean_12 : decode cX12_mean 12 = .ok (.iload_n 1, 1) := by decide +kernel
theorem dX12_mean_13 : decode cX12_mean 13 = .ok (.aload_n 0, 1) := by decide +kernel
theorem dX12_mean_14 : decode cX12_mean 14 = .ok (.getfield 15, 3) := by decide +kernel
theorem dX12_mean_17 : decode cX12_mean 17 = .ok (.iload_n 2, 1) := by decide +kernel
theorem dX12_mean_18 : decode cX12_mean 18 = .ok (.iaload, 1) := by decide +kernel
theorem dX12_mean_19 : decode cX12_mean 19 = .ok (.ifCond .ne 12, 3) := by decide +kernel
theorem dX12_mean_22 : decode cX12_mean 22 = .ok (.aload_n 0, 1) := by decide +kernel
theorem dX12_mean_23 : decode cX12_mean 23 = .ok (.getfield 9, 3) := by decide +kernel
theorem dX12_mean_26 : decode cX12_mean 26 = .ok (.iload_n 2, 1) := by decide +kernel
theorem dX12_mean_27 : decode cX12_mean 27 = .ok (.iaload, 1) := by decide +kernel
theorem dX12_mean_28 : decode cX12_mean 28 = .ok (.goto 4, 3) := by decide +kernel
theorem dX12_mean_31 : decode cX12_mean 31 = .ok (.iconst 0, 1) := by decide +kernel
theorem dX12_mean_32 : decode cX12_mean 32 = .ok (.iadd, 1) := by decide +kernel
theorem dX12_mean_33 : decode cX12_mean 33 = .ok (.istore_n 1, 1) := by decide +kernel
theorem dX12_mean_34 : decode cX12_mean 34 = .ok (.iinc 2 1, 3) := by decide +kernel
theorem dX12_mean_37 : decode cX12_mean 37 = .ok (.goto (-33), 3) := by decide +kernel
theorem dX12_mean_40 : decode cX12_mean 40 = .ok (.aload_n 0, 1) := by decide +kernel
theorem dX12_mean_41 : decode cX12_mean 41 = .ok (.iconst 0, 1) := by decide +kernel
theorem dX12_mean_42 : decode cX12_mean 42 = .ok (.invokevirtual 89, 3) := by decide +kernel
theorem dX12_mean_45 : decode cX12_mean 45 = .ok (.istore_n 2, 1) := by decide +kernel
theorem dX12_mean_46 : decode cX12_mean 46 = .ok (.iload_n 2, 1) := by decide +kernel
theorem dX12_mean_47 : decode cX12_mean 47 = .ok (.ifCond .ne 7, 3) := by decide +kernel
theorem dX12_mean_50 : decode cX12_mean 50 = .ok (.iconst 0, 1) := by decide +kernel
theorem dX12_mean_51 : decode cX12_mean 51 = .ok (.goto 6, 3) := by decide +kernel
theorem dX12_mean_54 : decode cX12_mean 54 = .ok (.iload_n 1, 1) := by decide +kernel
theorem dX12_mean_55 : decode cX12_mean 55 = .ok (.iload_n 2, 1) := by decide +kernel
theorem dX12_mean_56 : decode cX12_mean 56 = .ok (.idiv, 1) := by decide +kernel
theorem dX12_mean_57 : decode cX12_mean 57 = .ok (.ireturn, 1) := by decide +kernel
theorem dX12_gain_0 : decode cX12_gain 0 = .ok (.iconst 0, 1) := by decide +kernel
theorem dX12_gain_1 : decode cX12_gain 1 = .ok (.istore_n 2, 1) := by decide +kernel
theorem dX12_gain_2 : decode cX12_gain 2 = .ok (.iload_n 2, 1) := by decide +kernel
theorem dX12_gain_3 : decode cX12_gain 3 = .ok (.aload_n 0, 1) := by decide +kernel
theorem dX12_gain_4 : decode cX12_gain 4 = .ok (.getfield 39, 3) := by decide +kernel
theorem dX12_gain_7 : decode cX12_gain 7 = .ok (.if_icmp .ge 38, 3) := by decide +kernel
theorem dX12_gain_10 : decode cX12_gain 10 = .ok (.aload_n 0, 1) := by decide +kernel
theorem dX12_gain_11 : decode cX12_gain 11 = .ok (.getfield 15, 3) := by decide +kernel
theorem dX12_gain_14 : decode cX12_gain 14 = .ok (.iload_n 2, 1) := by decide +kernel
theorem dX12_gain_15 : decode cX12_gain 15 = .ok (.iaload, 1) := by decide +kernel
theorem dX12_gain_16 : decode cX12_gain 16 = .ok (.ifCond .ne 23, 3) := by decide +kernel
theorem dX12_gain_19 : decode cX12_gain 19 = .ok (.aload_n 0, 1) := by decide +kernel
theorem dX12_gain_20 : decode cX12_gain 20 = .ok (.getfield 9, 3) := by decide +kernel
theorem dX12_gain_23 : decode cX12_gain 23 = .ok (.iload_n 2, 1) := by decide +kernel
theorem dX12_gain_24 : decode cX12_gain 24 = .ok (.sipush 1000, 3) := by decide +kernel
theorem dX12_gain_27 : decode cX12_gain 27 = .ok (.aload_n 0, 1) := by decide +kernel
theorem dX12_gain_28 : decode cX12_gain 28 = .ok (.getfield 9, 3) := by decide +kernel
theorem dX12_gain_31 : decode cX12_gain 31 = .ok (.iload_n 2, 1) := by decide +kernel
theorem dX12_gain_32 : decode cX12_gain 32 = .ok (.iaload, 1) := by decide +kernel
theorem dX12_gain_33 : decode cX12_gain 33 = .ok (.iload_n 1, 1) := by decide +kernel
theorem dX12_gain_34 : decode cX12_gain 34 = .ok (.iadd, 1) := by decide +kernel
theorem dX12_gain_35 : decode cX12_gain 35 = .ok (.invokestatic 93, 3) := by decide +kernel
theorem dX12_gain_38 : decode cX12_gain 38 = .ok (.iastore, 1) := by decide +kernel
theorem dX12_gain_39 : decode cX12_gain 39 = .ok (.iinc 2 1, 3) := by decide +kernel
theorem dX12_gain_42 : decode cX12_gain 42 = .ok (.goto (-40), 3) := by decide +kernel
theorem dX12_gain_45 : decode cX12_gain 45 = .ok (.return_, 1) := by decide +kernel
theorem dX12_inGap_0 : decode cX12_inGap 0 = .ok (.iconst 0, 1) := by decide +kernel
theorem dX12_inGap_1 : decode cX12_inGap 1 = .ok (.istore_n 2, 1) := by decide +kernel
theorem dX12_inGap_2 : decode cX12_inGap 2 = .ok (.iconst 0, 1) := by decide +kernel
theorem dX12_inGap_3 : decode cX12_inGap 3 = .ok (.istore_n 3, 1) := by decide +kernel
theorem dX12_inGap_4 : decode cX12_inGap 4 = .ok (.iload_n 3, 1) := by decide +kernel
theorem dX12_inGap_5 : decode cX12_inGap 5 = .ok (.aload_n 0, 1) := by decide +kernel
theorem dX12_inGap_6 : decode cX12_inGap 6 = .ok (.getfield 82, 3) := by decide +kernel
theorem dX12_inGap_9 : decode cX12_inGap 9 = .ok (.if_icmp .ge 39, 3) := by decide +kernel
theorem dX12_inGap_12 : decode cX12_inGap 12 = .ok (.iload_n 2, 1) := by decide +kernel
theorem dX12_inGap_13 : decode cX12_inGap 13 = .ok (.ifCond .ne 23, 3) := by decide +kernel
theorem dX12_inGap_16 : decode cX12_inGap 16 = .ok (.aload_n 0, 1) := by decide +kernel
theorem dX12_inGap_17 : decode cX12_inGap 17 = .ok (.getfield 33, 3) := by decide +kernel
theorem dX12_inGap_20 : decode cX12_inGap 20 = .ok (.iload_n 3, 1) := by decide +kernel
theorem dX12_inGap_21 : decode cX12_inGap 21 = .ok (.iaload, 1) := by decide +kernel
theorem dX12_inGap_22 : decode cX12_inGap 22 = .ok (.iload_n 1, 1) := by decide +kernel
theorem dX12_inGap_23 : decode cX12_inGap 23 = .ok (.if_icmp .gt 17, 3) := by decide +kernel
theorem dX12_inGap_26 : decode cX12_inGap 26 = .ok (.iload_n 1, 1) := by decide +kernel
theorem dX12_inGap_27 : decode cX12_inGap 27 = .ok (.aload_n 0, 1) := by decide +kernel
theorem dX12_inGap_28 : decode cX12_inGap 28 = .ok (.getfield 36, 3) := by decide +kernel
theorem dX12_inGap_31 : decode cX12_inGap 31 = .ok (.iload_n 3, 1) := by decide +kernel
theorem dX12_inGap_32 : decode cX12_inGap 32 = .ok (.iaload, 1) := by decide +kernel
theorem dX12_inGap_33 : decode cX12_inGap 33 = .ok (.if_icmp .gt 7, 3) := by decide +kernel
theorem dX12_inGap_36 : decode cX12_inGap 36 = .ok (.iconst 1, 1) := by decide +kernel
theorem dX12_inGap_37 : decode cX12_inGap 37 = .ok (.goto 4, 3) := by decide +kernel
theorem dX12_inGap_40 : decode cX12_inGap 40 = .ok (.iconst 0, 1) := by decide +kernel
theorem dX12_inGap_41 : decode cX12_inGap 41 = .ok (.istore_n 2, 1) := by decide +kernel
theorem dX12_inGap_42 : decode cX12_inGap 42 = .ok (.iinc 3 1, 3) := by decide +kernel
theorem dX12_inGap_45 : decode cX12_inGap 45 = .ok (.goto (-41), 3) := by decide +kernel
theorem dX12_inGap_48 : decode cX12_inGap 48 = .ok (.iload_n 2, 1) := by decide +kernel
theorem dX12_inGap_49 : decode cX12_inGap 49 = .ok (.ireturn, 1) := by decide +kernel
