theorem dX13_refused_0 : decode cX13_refused 0 = .ok (.aload_n 0, 1) := by decide +kernel
theorem dX13_refused_1 : decode cX13_refused 1 = .ok (.iload_n 1, 1) := by decide +kernel
theorem dX13_refused_2 : decode cX13_refused 2 = .ok (.putfield 7, 3) := by decide +kernel
theorem dX13_refused_5 : decode cX13_refused 5 = .ok (.aload_n 0, 1) := by decide +kernel
theorem dX13_refused_6 : decode cX13_refused 6 = .ok (.iconst (-1), 1) := by decide +kernel
theorem dX13_refused_7 : decode cX13_refused 7 = .ok (.putfield 10, 3) := by decide +kernel
theorem dX13_refused_10 : decode cX13_refused 10 = .ok (.iconst (-1), 1) := by decide +kernel
theorem dX13_refused_11 : decode cX13_refused 11 = .ok (.ireturn, 1) := by decide +kernel
theorem dX13_done_0 : decode cX13_done 0 = .ok (.aload_n 0, 1) := by decide +kernel
theorem dX13_done_1 : decode cX13_done 1 = .ok (.iconst 0, 1) := by decide +kernel
theorem dX13_done_2 : decode cX13_done 2 = .ok (.putfield 7, 3) := by decide +kernel
theorem dX13_done_5 : decode cX13_done 5 = .ok (.aload_n 0, 1) := by decide +kernel
theorem dX13_done_6 : decode cX13_done 6 = .ok (.iconst (-1), 1) := by decide +kernel
theorem dX13_done_7 : decode cX13_done 7 = .ok (.putfield 10, 3) := by decide +kernel
theorem dX13_done_10 : decode cX13_done 10 = .ok (.iload_n 1, 1) := by decide +kernel
theorem dX13_done_11 : decode cX13_done 11 = .ok (.ireturn, 1) := by decide +kernel
theorem dX13_denied_0 : decode cX13_denied 0 = .ok (.aload_n 0, 1) := by decide +kernel
theorem dX13_denied_1 : decode cX13_denied 1 = .ok (.iload_n 1, 1) := by decide +kernel
theorem dX13_denied_2 : decode cX13_denied 2 = .ok (.putfield 7, 3) := by decide +kernel
theorem dX13_denied_5 : decode cX13_denied 5 = .ok (.aload_n 0, 1) := by decide +kernel
theorem dX13_denied_6 : decode cX13_denied 6 = .ok (.iconst (-1), 1) := by decide +kernel
theorem dX13_denied_7 : decode cX13_denied 7 = .ok (.putfield 10, 3) := by decide +kernel
theorem dX13_denied_10 : decode cX13_denied 10 = .ok (.iconst 0, 1) := by decide +kernel
theorem dX13_denied_11 : decode cX13_denied 11 = .ok (.ireturn, 1) := by decide +kernel
theorem dX13_granted_0 : decode cX13_granted 0 = .ok (.aload_n 0, 1) := by decide +kernel
theorem dX13_granted_1 : decode cX13_granted 1 = .ok (.iconst 0, 1) := by decide +kernel
theorem dX13_granted_2 : decode cX13_granted 2 = .ok (.putfield 7, 3) := by decide +kernel
theorem dX13_granted_5 : decode cX13_granted 5 = .ok (.aload_n 0, 1) := by decide +kernel
theorem dX13_granted_6 : decode cX13_granted 6 = .ok (.iconst (-1), 1) := by decide +kernel
theorem dX13_granted_7 : decode cX13_granted 7 = .ok (.putfield 10, 3) := by decide +kernel
theorem dX13_granted_10 : decode cX13_granted 10 = .ok (.iconst 1, 1) := by decide +kernel
theorem dX13_granted_11 : decode cX13_granted 11 = .ok (.ireturn, 1) := by decide +kernel
theorem dX13_in_0 : decode cX13_in 0 = .ok (.iload_n 0, 1) := by decide +kernel
theorem dX13_in_1 : decode cX13_in 1 = .ok (.iload_n 1, 1) := by decide +kernel
theorem dX13_in_2 : decode cX13_in 2 = .ok (.if_icmp .lt 12, 3) := by decide +kernel
theorem dX13_in_5 : decode cX13_in 5 = .ok (.iload_n 0, 1) := by decide +kernel
theorem dX13_in_6 : decode cX13_in 6 = .ok (.iload_n 2, 1) := by decide +kernel
theorem dX13_in_7 : decode cX13_in 7 = .ok (.if_icmp .gt 7, 3) := by decide +kernel
theorem dX13_in_10 : decode cX13_in 10 = .ok (.iconst 1, 1) := by decide +kernel
theorem dX13_in_11 : decode cX13_in 11 = .ok (.goto 4, 3) := by decide +kernel
theorem dX13_in_14 : decode cX13_in 14 = .ok (.iconst 0, 1) := by decide +kernel
theorem dX13_in_15 : decode cX13_in 15 = .ok (.ireturn, 1) := by decide +kernel
theorem dX13_init_0 : decode cX13_init 0 = .ok (.aload_n 0, 1) := by decide +kernel
theorem dX13_init_1 : decode cX13_init 1 = .ok (.invokespecial 13, 3) := by decide +kernel
theorem dX13_init_4 : decode cX13_init 4 = .ok (.aload_n 0, 1) := by decide +kernel
theorem dX13_init_5 : decode cX13_init 5 = .ok (.iconst (-1), 1) := by decide +kernel
theorem dX13_init_6 : decode cX13_init 6 = .ok (.putfield 10, 3) := by decide +kernel
theorem dX13_init_9 : decode cX13_init 9 = .ok (.aload_n 0, 1) := by decide +kernel
theorem dX13_init_10 : decode cX13_init 10 = .ok (.bipush 6, 2) := by decide +kernel
theorem dX13_init_12 : decode cX13_init 12 = .ok (.putfield 19, 3) := by decide +kernel
theorem dX13_init_15 : decode cX13_init 15 = .ok (.aload_n 0, 1) := by decide +kernel
theorem dX13_init_16 : decode cX13_init 16 = .ok (.bipush 12, 2) := by decide +kernel
theorem dX13_init_18 : decode cX13_init 18 = .ok (.newarray .int, 2) := by decide +kernel
theorem dX13_init_20 : decode cX13_init 20 = .ok (.putfield 22, 3) := by decide +kernel
theorem dX13_init_23 : decode cX13_init 23 = .ok (.aload_n 0, 1) := by decide +kernel
theorem dX13_init_24 : decode cX13_init 24 = .ok (.bipush 12, 2) := by decide +kernel
theorem dX13_init_26 : decode cX13_init 26 = .ok (.newarray .int, 2) := by decide +kernel
theorem dX13_init_28 : decode cX13_init 28 = .ok (.putfield 26, 3) := by decide +kernel
theorem dX13_init_31 : decode cX13_init 31 = .ok (.aload_n 0, 1) := by decide +kernel
theorem dX13_init_32 : decode cX13_init 32 = .ok (.sipush 334, 3) := by decide +kernel
theorem dX13_init_35 : decode cX13_init 35 = .ok (.newarray .int, 2) := by decide +kernel
theorem dX13_init_37 : decode cX13_init 37 = .ok (.putfield 29, 3) := by decide +kernel
theorem dX13_init_40 : decode cX13_init 40 = .ok (.aload_n 0, 1) := by decide +kernel
theorem dX13_init_41 : decode cX13_init 41 = .ok (.bipush 6, 2) := by decide +kernel
theorem dX13_init_43 : decode cX13_init 43 = .ok (.anewarray 32, 3) := by decide +kernel
theorem dX13_init_46 : decode cX13_init 46 = .ok (.putfield 34, 3) := by decide +kernel
theorem dX13_init_49 : decode cX13_init 49 = .ok (.aload_n 0, 1) := by decide +kernel
theorem dX13_init_50 : decode cX13_init 50 = .ok (.iconst (-1), 1) := by decide +kernel
theorem dX13_init_51 : decode cX13_init 51 = .ok (.putfield 38, 3) := by decide +kernel
theorem dX13_init_54 : decode cX13_init 54 = .ok (.aload_n 0, 1) := by decide +kernel
theorem dX13_init_55 : decode cX13_init 55 = .ok (.bipush 12, 2) := by decide +kernel
theorem dX13_init_57 : decode cX13_init 57 = .ok (.newarray .int, 2) := by decide +kernel
theorem dX13_init_59 : decode cX13_init 59 = .ok (.putfield 41, 3) := by decide +kernel
theorem dX13_init_62 : decode cX13_init 62 = .ok (.aload_n 0, 1) := by decide +kernel
theorem dX13_init_63 : decode cX13_init 63 = .ok (.bipush 12, 2) := by decide +kernel
theorem dX13_init_65 : decode cX13_init 65 = .ok (.newarray .int, 2) := by decide +kernel
theorem dX13_init_67 : decode cX13_init 67 = .ok (.putfield 44, 3) := by decide +kernel
theorem dX13_init_70 : decode cX13_init 70 = .ok (.aload_n 0, 1) := by decide +kernel
theorem dX13_init_71 : decode cX13_init 71 = .ok (.sipush 334, 3) := by decide +kernel
theorem dX13_init_74 : decode cX13_init 74 = .ok (.newarray .int, 2) := by decide +kernel
theorem dX13_init_76 : decode cX13_init 76 = .ok (.putfield 47, 3) := by decide +kernel
theorem dX13_init_79 : decode cX13_init 79 = .ok (.aload_n 0, 1) := by decide +kernel
theorem dX13_init_80 : decode cX13_init 80 = .ok (.bipush 6, 2) := by decide +kernel
theorem dX13_init_82 : decode cX13_init 82 = .ok (.anewarray 32, 3) := by decide +kernel
theorem dX13_init_85 : decode cX13_init 85 = .ok (.putfield 50, 3) := by decide +kernel
theorem dX13_init_88 : decode cX13_init 88 = .ok (.aload_n 0, 1) := by decide +kernel
theorem dX13_init_89 : decode cX13_init 89 = .ok (.new 32, 3) := by decide +kernel
theorem dX13_init_92 : decode cX13_init 92 = .ok (.dup, 1) := by decide +kernel
theorem dX13_init_93 : decode cX13_init 93 = .ok (.invokespecial 53, 3) := by decide +kernel
theorem dX13_init_96 : decode cX13_init 96 = .ok (.putfield 54, 3) := by decide +kernel
theorem dX13_init_99 : decode cX13_init 99 = .ok (.aload_n 0, 1) := by decide +kernel
theorem dX13_init_100 : decode cX13_init 100 = .ok (.new 58, 3) := by decide +kernel
theorem dX13_init_103 : decode cX13_init 103 = .ok (.dup, 1) := by decide +kernel
theorem dX13_init_104 : decode cX13_init 104 = .ok (.invokespecial 60, 3) := by decide +kernel
theorem dX13_init_107 : decode cX13_init 107 = .ok (.putfield 61, 3) := by decide +kernel
theorem dX13_init_110 : decode cX13_init 110 = .ok (.aload_n 0, 1) := by decide +kernel
theorem dX13_init_111 : decode cX13_init 111 = .ok (.sipush 400, 3) := by decide +kernel
theorem dX13_init_114 : decode cX13_init 114 = .ok (.newarray .byte, 2) := by decide +kernel
theorem dX13_init_116 : decode cX13_init 116 = .ok (.putfield 65, 3) := by decide +kernel
theorem dX13_init_119 : decode cX13_init 119 = .ok (.aload_n 0, 1) := by decide +kernel
theorem dX13_init_120 : decode cX13_init 120 = .ok (.bipush 9, 2) := by decide +kernel
theorem dX13_init_122 : decode cX13_init 122 = .ok (.newarray .int, 2) := by decide +kernel
theorem dX13_init_124 : decode cX13_init 124 = .ok (.putfield 69, 3) := by decide +kernel
theorem dX13_init_127 : decode cX13_init 127 = .ok (.aload_n 0, 1) := by decide +kernel
theorem dX13_init_128 : decode cX13_init 128 = .ok (.bipush 108, 2) := by decide +kernel
theorem dX13_init_130 : decode cX13_init 130 = .ok (.newarray .int, 2) := by decide +kernel
theorem dX13_init_132 : decode cX13_init 132 = .ok (.putfield 72, 3) := by decide +kernel
theorem dX13_init_135 : decode cX13_init 135 = .ok (.aload_n 0, 1) := by decide +kernel
theorem dX13_init_136 : decode cX13_init 136 = .ok (.bipush 108, 2) := by decide +kernel
theorem dX13_init_138 : decode cX13_init 138 = .ok (.newarray .int, 2) := by decide +kernel
theorem dX13_init_140 : decode cX13_init 140 = .ok (.putfield 75, 3) := by decide +kernel
theorem dX13_init_143 : decode cX13_init 143 = .ok (.aload_n 0, 1) := by decide +kernel
theorem dX13_init_144 : decode cX13_init 144 = .ok (.sipush 432, 3) := by decide +kernel
theorem dX13_init_147 : decode cX13_init 147 = .ok (.newarray .int, 2) := by decide +kernel
theorem dX13_init_149 : decode cX13_init 149 = .ok (.putfield 78, 3) := by decide +kernel
theorem dX13_init_152 : decode cX13_init 152 = .ok (.aload_n 0, 1) := by decide +kernel
theorem dX13_init_153 : decode cX13_init 153 = .ok (.sipush 432, 3) := by decide +kernel
theorem dX13_init_156 : decode cX13_init 156 = .ok (.newarray .int, 2) := by decide +kernel
theorem dX13_init_158 : decode cX13_init 158 = .ok (.putfield 81, 3) := by decide +kernel
theorem dX13_init_161 : decode cX13_init 161 = .ok (.aload_n 0, 1) := by decide +kernel
theorem dX13_init_162 : decode cX13_init 162 = .ok (.sipush 432, 3) := by decide +kernel
theorem dX13_init_165 : decode cX13_init 165 = .ok (.newarray .boolean, 2) := by decide +kernel
theorem dX13_init_167 : decode cX13_init 167 = .ok (.putfield 84, 3) := by decide +kernel
theorem dX13_init_170 : decode cX13_init 170 = .ok (.aload_n 0, 1) := by decide +kernel
theorem dX13_init_171 : decode cX13_init 171 = .ok (.bipush 44, 2) := by decide +kernel
theorem dX13_init_173 : decode cX13_init 173 = .ok (.newarray .int, 2) := by decide +kernel
theorem dX13_init_175 : decode cX13_init 175 = .ok (.putfield 88, 3) := by decide +kernel
theorem dX13_init_178 : decode cX13_init 178 = .ok (.iconst 0, 1) := by decide +kernel
theorem dX13_init_179 : decode cX13_init 179 = .ok (.istore_n 1, 1) := by decide +kernel
theorem dX13_init_180 : decode cX13_init 180 = .ok (.iload_n 1, 1) := by decide +kernel
theorem dX13_init_181 : decode cX13_init 181 = .ok (.sipush 334, 3) := by decide +kernel
theorem dX13_init_184 : decode cX13_init 184 = .ok (.if_icmp .ge 17, 3) := by decide +kernel
theorem dX13_init_187 : decode cX13_init 187 = .ok (.aload_n 0, 1) := by decide +kernel
theorem dX13_init_188 : decode cX13_init 188 = .ok (.getfield 29, 3) := by decide +kernel
theorem dX13_init_191 : decode cX13_init 191 = .ok (.iload_n 1, 1) := by decide +kernel
theorem dX13_init_192 : decode cX13_init 192 = .ok (.bipush (-20), 2) := by decide +kernel
theorem dX13_init_194 : decode cX13_init 194 = .ok (.iastore, 1) := by decide +kernel
theorem dX13_init_195 : decode cX13_init 195 = .ok (.iinc 1 1, 3) := by decide +kernel
theorem dX13_init_198 : decode cX13_init 198 = .ok (.goto (-18), 3) := by decide +kernel
theorem dX13_init_201 : decode cX13_init 201 = .ok (.iconst 0, 1) := by decide +kernel
theorem dX13_init_202 : decode cX13_init 202 = .ok (.istore_n 1, 1) := by decide +kernel
theorem dX13_init_203 : decode cX13_init 203 = .ok (.iload_n 1, 1) := by decide +kernel
theorem dX13_init_204 : decode cX13_init 204 = .ok (.bipush 6, 2) := by decide +kernel
theorem dX13_init_206 : decode cX13_init 206 = .ok (.if_icmp .ge 35, 3) := by decide +kernel
theorem dX13_init_209 : decode cX13_init 209 = .ok (.aload_n 0, 1) := by decide +kernel
theorem dX13_init_210 : decode cX13_init 210 = .ok (.getfield 34, 3) := by decide +kernel
theorem dX13_init_213 : decode cX13_init 213 = .ok (.iload_n 1, 1) := by decide +kernel
theorem dX13_init_214 : decode cX13_init 214 = .ok (.new 32, 3) := by decide +kernel
theorem dX13_init_217 : decode cX13_init 217 = .ok (.dup, 1) := by decide +kernel
theorem dX13_init_218 : decode cX13_init 218 = .ok (.invokespecial 53, 3) := by decide +kernel
theorem dX13_init_221 : decode cX13_init 221 = .ok (.aastore, 1) := by decide +kernel
theorem dX13_init_222 : decode cX13_init 222 = .ok (.aload_n 0, 1) := by decide +kernel
theorem dX13_init_223 : decode cX13_init 223 = .ok (.getfield 50, 3) := by decide +kernel
theorem dX13_init_226 : decode cX13_init 226 = .ok (.iload_n 1, 1) := by decide +kernel
theorem dX13_init_227 : decode cX13_init 227 = .ok (.new 32, 3) := by decide +kernel
theorem dX13_init_230 : decode cX13_init 230 = .ok (.dup, 1) := by decide +kernel
theorem dX13_init_231 : decode cX13_init 231 = .ok (.invokespecial 53, 3) := by decide +kernel
theorem dX13_init_234 : decode cX13_init 234 = .ok (.aastore, 1) := by decide +kernel
theorem dX13_init_235 : decode cX13_init 235 = .ok (.iinc 1 1, 3) := by decide +kernel
theorem dX13_init_238 : decode cX13_init 238 = .ok (.goto (-35), 3) := by decide +kernel
theorem dX13_init_241 : decode cX13_init 241 = .ok (.return_, 1) := by decide +kernel
theorem dX13_keep_0 : decode cX13_keep 0 = .ok (.aload_n 0, 1) := by decide +kernel
theorem dX13_keep_1 : decode cX13_keep 1 = .ok (.iconst 0, 1) := by decide +kernel
theorem dX13_keep_2 : decode cX13_keep 2 = .ok (.putfield 1, 3) := by decide +kernel
theorem dX13_keep_5 : decode cX13_keep 5 = .ok (.aload_n 0, 1) := by decide +kernel
theorem dX13_keep_6 : decode cX13_keep 6 = .ok (.aload_n 0, 1) := by decide +kernel
theorem dX13_keep_7 : decode cX13_keep 7 = .ok (.getfield 91, 3) := by decide +kernel
theorem dX13_keep_10 : decode cX13_keep 10 = .ok (.putfield 38, 3) := by decide +kernel
theorem dX13_keep_13 : decode cX13_keep 13 = .ok (.aload_n 0, 1) := by decide +kernel
theorem dX13_keep_14 : decode cX13_keep 14 = .ok (.aload_n 0, 1) := by decide +kernel
theorem dX13_keep_15 : decode cX13_keep 15 = .ok (.getfield 94, 3) := by decide +kernel
theorem dX13_keep_18 : decode cX13_keep 18 = .ok (.putfield 97, 3) := by decide +kernel
theorem dX13_keep_21 : decode cX13_keep 21 = .ok (.aload_n 0, 1) := by decide +kernel
theorem dX13_keep_22 : decode cX13_keep 22 = .ok (.aload_n 0, 1) := by decide +kernel
theorem dX13_keep_23 : decode cX13_keep 23 = .ok (.getfield 100, 3) := by decide +kernel
theorem dX13_keep_26 : decode cX13_keep 26 = .ok (.putfield 103, 3) := by decide +kernel
theorem dX13_keep_29 : decode cX13_keep 29 = .ok (.aload_n 0, 1) := by decide +kernel
theorem dX13_keep_30 : decode cX13_keep 30 = .ok (.aload_n 0, 1) := by decide +kernel
theorem dX13_keep_31 : decode cX13_keep 31 = .ok (.getfield 19, 3) := by decide +kernel
theorem dX13_keep_34 : decode cX13_keep 34 = .ok (.putfield 106, 3) := by decide +kernel
theorem dX13_keep_37 : decode cX13_keep 37 = .ok (.iconst 0, 1) := by decide +kernel
theorem dX13_keep_38 : decode cX13_keep 38 = .ok (.istore_n 1, 1) := by decide +kernel
theorem dX13_keep_39 : decode cX13_keep 39 = .ok (.iload_n 1, 1) := by decide +kernel
theorem dX13_keep_40 : decode cX13_keep 40 = .ok (.bipush 12, 2) := by decide +kernel
theorem dX13_keep_42 : decode cX13_keep 42 = .ok (.if_icmp .ge 33, 3) := by decide +kernel
theorem dX13_keep_45 : decode cX13_keep 45 = .ok (.aload_n 0, 1) := by decide +kernel
theorem dX13_keep_46 : decode cX13_keep 46 = .ok (.getfield 41, 3) := by decide +kernel
theorem dX13_keep_49 : decode cX13_keep 49 = .ok (.iload_n 1, 1) := by decide +kernel
theorem dX13_keep_50 : decode cX13_keep 50 = .ok (.aload_n 0, 1) := by decide +kernel
theorem dX13_keep_51 : decode cX13_keep 51 = .ok (.getfield 22, 3) := by decide +kernel
theorem dX13_keep_54 : decode cX13_keep 54 = .ok (.iload_n 1, 1) := by decide +kernel
theorem dX13_keep_55 : decode cX13_keep 55 = .ok (.iaload, 1) := by decide +kernel
theorem dX13_keep_56 : decode cX13_keep 56 = .ok (.iastore, 1) := by decide +kernel
theorem dX13_keep_57 : decode cX13_keep 57 = .ok (.aload_n 0, 1) := by decide +kernel
theorem dX13_keep_58 : decode cX13_keep 58 = .ok (.getfield 44, 3) := by decide +kernel
theorem dX13_keep_61 : decode cX13_keep 61 = .ok (.iload_n 1, 1) := by decide +kernel
theorem dX13_keep_62 : decode cX13_keep 62 = .ok (.aload_n 0, 1) := by decide +kernel
theorem dX13_keep_63 : decode cX13_keep 63 = .ok (.getfield 26, 3) := by decide +kernel
theorem dX13_keep_66 : decode cX13_keep 66 = .ok (.iload_n 1, 1) := by decide +kernel
theorem dX13_keep_67 : decode cX13_keep 67 = .ok (.iaload, 1) := by decide +kernel
theorem dX13_keep_68 : decode cX13_keep 68 = .ok (.iastore, 1) := by decide +kernel
theorem dX13_keep_69 : decode cX13_keep 69 = .ok (.iinc 1 1, 3) := by decide +kernel
theorem dX13_keep_72 : decode cX13_keep 72 = .ok (.goto (-33), 3) := by decide +kernel
theorem dX13_keep_75 : decode cX13_keep 75 = .ok (.iconst 0, 1) := by decide +kernel
theorem dX13_keep_76 : decode cX13_keep 76 = .ok (.istore_n 1, 1) := by decide +kernel
theorem dX13_keep_77 : decode cX13_keep 77 = .ok (.iload_n 1, 1) := by decide +kernel
theorem dX13_keep_78 : decode cX13_keep 78 = .ok (.sipush 334, 3) := by decide +kernel
theorem dX13_keep_81 : decode cX13_keep 81 = .ok (.if_icmp .ge 21, 3) := by decide +kernel
theorem dX13_keep_84 : decode cX13_keep 84 = .ok (.aload_n 0, 1) := by decide +kernel
theorem dX13_keep_85 : decode cX13_keep 85 = .ok (.getfield 47, 3) := by decide +kernel
theorem dX13_keep_88 : decode cX13_keep 88 = .ok (.iload_n 1, 1) := by decide +kernel
theorem dX13_keep_89 : decode cX13_keep 89 = .ok (.aload_n 0, 1) := by decide +kernel
theorem dX13_keep_90 : decode cX13_keep 90 = .ok (.getfield 29, 3) := by decide +kernel
theorem dX13_keep_93 : decode cX13_keep 93 = .ok (.iload_n 1, 1) := by decide +kernel
theorem dX13_keep_94 : decode cX13_keep 94 = .ok (.iaload, 1) := by decide +kernel
theorem dX13_keep_95 : decode cX13_keep 95 = .ok (.iastore, 1) := by decide +kernel
theorem dX13_keep_96 : decode cX13_keep 96 = .ok (.iinc 1 1, 3) := by decide +kernel
theorem dX13_keep_99 : decode cX13_keep 99 = .ok (.goto (-22), 3) := by decide +kernel
theorem dX13_keep_102 : decode cX13_keep 102 = .ok (.iconst 0, 1) := by decide +kernel
theorem dX13_keep_103 : decode cX13_keep 103 = .ok (.istore_n 1, 1) := by decide +kernel
theorem dX13_keep_104 : decode cX13_keep 104 = .ok (.iload_n 1, 1) := by decide +kernel
theorem dX13_keep_105 : decode cX13_keep 105 = .ok (.aload_n 0, 1) := by decide +kernel
theorem dX13_keep_106 : decode cX13_keep 106 = .ok (.getfield 94, 3) := by decide +kernel
theorem dX13_keep_109 : decode cX13_keep 109 = .ok (.if_icmp .ge 24, 3) := by decide +kernel
theorem dX13_keep_112 : decode cX13_keep 112 = .ok (.aload_n 0, 1) := by decide +kernel
theorem dX13_keep_113 : decode cX13_keep 113 = .ok (.getfield 50, 3) := by decide +kernel
theorem dX13_keep_116 : decode cX13_keep 116 = .ok (.iload_n 1, 1) := by decide +kernel
theorem dX13_keep_117 : decode cX13_keep 117 = .ok (.aaload, 1) := by decide +kernel
theorem dX13_keep_118 : decode cX13_keep 118 = .ok (.aload_n 0, 1) := by decide +kernel
theorem dX13_keep_119 : decode cX13_keep 119 = .ok (.getfield 34, 3) := by decide +kernel
theorem dX13_keep_122 : decode cX13_keep 122 = .ok (.iload_n 1, 1) := by decide +kernel
theorem dX13_keep_123 : decode cX13_keep 123 = .ok (.aaload, 1) := by decide +kernel
theorem dX13_keep_124 : decode cX13_keep 124 = .ok (.invokevirtual 109, 3) := by decide +kernel
theorem dX13_keep_127 : decode cX13_keep 127 = .ok (.iinc 1 1, 3) := by decide +kernel
theorem dX13_keep_130 : decode cX13_keep 130 = .ok (.goto (-26), 3) := by decide +kernel
theorem dX13_keep_133 : decode cX13_keep 133 = .ok (.iconst 1, 1) := by decide +kernel
theorem dX13_keep_134 : decode cX13_keep 134 = .ok (.ireturn, 1) := by decide +kernel
theorem dX13_back_0 : decode cX13_back 0 = .ok (.aload_n 0, 1) := by decide +kernel
theorem dX13_back_1 : decode cX13_back 1 = .ok (.iconst 0, 1) := by decide +kernel
theorem dX13_back_2 : decode cX13_back 2 = .ok (.putfield 1, 3) := by decide +kernel
theorem dX13_back_5 : decode cX13_back 5 = .ok (.aload_n 0, 1) := by decide +kernel
theorem dX13_back_6 : decode cX13_back 6 = .ok (.getfield 38, 3) := by decide +kernel
theorem dX13_back_9 : decode cX13_back 9 = .ok (.iconst (-1), 1) := by decide +kernel
theorem dX13_back_10 : decode cX13_back 10 = .ok (.if_icmp .ne 9, 3) := by decide +kernel
theorem dX13_back_13 : decode cX13_back 13 = .ok (.aload_n 0, 1) := by decide +kernel
theorem dX13_back_14 : decode cX13_back 14 = .ok (.iconst 1, 1) := by decide +kernel
theorem dX13_back_15 : decode cX13_back 15 = .ok (.invokevirtual 113, 3) := by decide +kernel
theorem dX13_back_18 : decode cX13_back 18 = .ok (.ireturn, 1) := by decide +kernel
theorem dX13_back_19 : decode cX13_back 19 = .ok (.aload_n 0, 1) := by decide +kernel
theorem dX13_back_20 : decode cX13_back 20 = .ok (.aload_n 0, 1) := by decide +kernel
theorem dX13_back_21 : decode cX13_back 21 = .ok (.getfield 38, 3) := by decide +kernel
theorem dX13_back_24 : decode cX13_back 24 = .ok (.putfield 91, 3) := by decide +kernel
theorem dX13_back_27 : decode cX13_back 27 = .ok (.aload_n 0, 1) := by decide +kernel
theorem dX13_back_28 : decode cX13_back 28 = .ok (.aload_n 0, 1) := by decide +kernel
theorem dX13_back_29 : decode cX13_back 29 = .ok (.getfield 97, 3) := by decide +kernel
theorem dX13_back_32 : decode cX13_back 32 = .ok (.putfield 94, 3) := by decide +kernel
theorem dX13_back_35 : decode cX13_back 35 = .ok (.aload_n 0, 1) := by decide +kernel
theorem dX13_back_36 : decode cX13_back 36 = .ok (.aload_n 0, 1) := by decide +kernel
theorem dX13_back_37 : decode cX13_back 37 = .ok (.getfield 103, 3) := by decide +kernel
theorem dX13_back_40 : decode cX13_back 40 = .ok (.putfield 100, 3) := by decide +kernel
theorem dX13_back_43 : decode cX13_back 43 = .ok (.aload_n 0, 1) := by decide +kernel
theorem dX13_back_44 : decode cX13_back 44 = .ok (.aload_n 0, 1) := by decide +kernel
theorem dX13_back_45 : decode cX13_back 45 = .ok (.getfield 106, 3) := by decide +kernel
theorem dX13_back_48 : decode cX13_back 48 = .ok (.putfield 19, 3) := by decide +kernel
theorem dX13_back_51 : decode cX13_back 51 = .ok (.iconst 0, 1) := by decide +kernel
theorem dX13_back_52 : decode cX13_back 52 = .ok (.istore_n 1, 1) := by decide +kernel
theorem dX13_back_53 : decode cX13_back 53 = .ok (.iload_n 1, 1) := by decide +kernel
theorem dX13_back_54 : decode cX13_back 54 = .ok (.bipush 12, 2) := by decide +kernel
theorem dX13_back_56 : decode cX13_back 56 = .ok (.if_icmp .ge 33, 3) := by decide +kernel
theorem dX13_back_59 : decode cX13_back 59 = .ok (.aload_n 0, 1) := by decide +kernel
theorem dX13_back_60 : decode cX13_back 60 = .ok (.getfield 22, 3) := by decide +kernel
theorem dX13_back_63 : decode cX13_back 63 = .ok (.iload_n 1, 1) := by decide +kernel
theorem dX13_back_64 : decode cX13_back 64 = .ok (.aload_n 0, 1) := by decide +kernel
theorem dX13_back_65 : decode cX13_back 65 = .ok (.getfield 41, 3) := by decide +kernel
theorem dX13_back_68 : decode cX13_back 68 = .ok (.iload_n 1, 1) := by decide +kernel
theorem dX13_back_69 : decode cX13_back 69 = .ok (.iaload, 1) := by decide +kernel
theorem dX13_back_70 : decode cX13_back 70 = .ok (.iastore, 1) := by decide +kernel
theorem dX13_back_71 : decode cX13_back 71 = .ok (.aload_n 0, 1) := by decide +kernel
theorem dX13_back_72 : decode cX13_back 72 = .ok (.getfield 26, 3) := by decide +kernel
theorem dX13_back_75 : decode cX13_back 75 = .ok (.iload_n 1, 1) := by decide +kernel
theorem dX13_back_76 : decode cX13_back 76 = .ok (.aload_n 0, 1) := by decide +kernel
theorem dX13_back_77 : decode cX13_back 77 = .ok (.getfield 44, 3) := by decide +kernel
theorem dX13_back_80 : decode cX13_back 80 = .ok (.iload_n 1, 1) := by decide +kernel
theorem dX13_back_81 : decode cX13_back 81 = .ok (.iaload, 1) := by decide +kernel
theorem dX13_back_82 : decode cX13_back 82 = .ok (.iastore, 1) := by decide +kernel
theorem dX13_back_83 : decode cX13_back 83 = .ok (.iinc 1 1, 3) := by decide +kernel
theorem dX13_back_86 : decode cX13_back 86 = .ok (.goto (-33), 3) := by decide +kernel
theorem dX13_back_89 : decode cX13_back 89 = .ok (.iconst 0, 1) := by decide +kernel
theorem dX13_back_90 : decode cX13_back 90 = .ok (.istore_n 1, 1) := by decide +kernel
theorem dX13_back_91 : decode cX13_back 91 = .ok (.iload_n 1, 1) := by decide +kernel
theorem dX13_back_92 : decode cX13_back 92 = .ok (.sipush 334, 3) := by decide +kernel
theorem dX13_back_95 : decode cX13_back 95 = .ok (.if_icmp .ge 21, 3) := by decide +kernel
theorem dX13_back_98 : decode cX13_back 98 = .ok (.aload_n 0, 1) := by decide +kernel
theorem dX13_back_99 : decode cX13_back 99 = .ok (.getfield 29, 3) := by decide +kernel
theorem dX13_back_102 : decode cX13_back 102 = .ok (.iload_n 1, 1) := by decide +kernel
theorem dX13_back_103 : decode cX13_back 103 = .ok (.aload_n 0, 1) := by decide +kernel
theorem dX13_back_104 : decode cX13_back 104 = .ok (.getfield 47, 3) := by decide +kernel
theorem dX13_back_107 : decode cX13_back 107 = .ok (.iload_n 1, 1) := by decide +kernel
theorem dX13_back_108 : decode cX13_back 108 = .ok (.iaload, 1) := by decide +kernel
theorem dX13_back_109 : decode cX13_back 109 = .ok (.iastore, 1) := by decide +kernel
theorem dX13_back_110 : decode cX13_back 110 = .ok (.iinc 1 1, 3) := by decide +kernel
theorem dX13_back_113 : decode cX13_back 113 = .ok (.goto (-22), 3) := by decide +kernel
theorem dX13_back_116 : decode cX13_back 116 = .ok (.iconst 0, 1) := by decide +kernel
theorem dX13_back_117 : decode cX13_back 117 = .ok (.istore_n 1, 1) := by decide +kernel
theorem dX13_back_118 : decode cX13_back 118 = .ok (.iload_n 1, 1) := by decide +kernel
theorem dX13_back_119 : decode cX13_back 119 = .ok (.aload_n 0, 1) := by decide +kernel
theorem dX13_back_120 : decode cX13_back 120 = .ok (.getfield 94, 3) := by decide +kernel
theorem dX13_back_123 : decode cX13_back 123 = .ok (.if_icmp .ge 24, 3) := by decide +kernel
theorem dX13_back_126 : decode cX13_back 126 = .ok (.aload_n 0, 1) := by decide +kernel
theorem dX13_back_127 : decode cX13_back 127 = .ok (.getfield 34, 3) := by decide +kernel
theorem dX13_back_130 : decode cX13_back 130 = .ok (.iload_n 1, 1) := by decide +kernel
theorem dX13_back_131 : decode cX13_back 131 = .ok (.aaload, 1) := by decide +kernel
theorem dX13_back_132 : decode cX13_back 132 = .ok (.aload_n 0, 1) := by decide +kernel
theorem dX13_back_133 : decode cX13_back 133 = .ok (.getfield 50, 3) := by decide +kernel
theorem dX13_back_136 : decode cX13_back 136 = .ok (.iload_n 1, 1) := by decide +kernel
theorem dX13_back_137 : decode cX13_back 137 = .ok (.aaload, 1) := by decide +kernel
theorem dX13_back_138 : decode cX13_back 138 = .ok (.invokevirtual 109, 3) := by decide +kernel
theorem dX13_back_141 : decode cX13_back 141 = .ok (.iinc 1 1, 3) := by decide +kernel
theorem dX13_back_144 : decode cX13_back 144 = .ok (.goto (-26), 3) := by decide +kernel
theorem dX13_back_147 : decode cX13_back 147 = .ok (.aload_n 0, 1) := by decide +kernel
theorem dX13_back_148 : decode cX13_back 148 = .ok (.invokevirtual 117, 3) := by decide +kernel
theorem dX13_back_151 : decode cX13_back 151 = .ok (.ireturn, 1) := by decide +kernel
theorem dX13_leg_0 : decode cX13_leg 0 = .ok (.aload_n 0, 1) := by decide +kernel
theorem dX13_leg_1 : decode cX13_leg 1 = .ok (.iconst 0, 1) := by decide +kernel
theorem dX13_leg_2 : decode cX13_leg 2 = .ok (.putfield 1, 3) := by decide +kernel
theorem dX13_leg_5 : decode cX13_leg 5 = .ok (.aload_n 0, 1) := by decide +kernel
theorem dX13_leg_6 : decode cX13_leg 6 = .ok (.getfield 100, 3) := by decide +kernel
theorem dX13_leg_9 : decode cX13_leg 9 = .ok (.ifCond .le 9, 3) := by decide +kernel
theorem dX13_leg_12 : decode cX13_leg 12 = .ok (.aload_n 0, 1) := by decide +kernel
theorem dX13_leg_13 : decode cX13_leg 13 = .ok (.iconst 5, 1) := by decide +kernel
theorem dX13_leg_14 : decode cX13_leg 14 = .ok (.invokevirtual 121, 3) := by decide +kernel
theorem dX13_leg_17 : decode cX13_leg 17 = .ok (.ireturn, 1) := by decide +kernel
theorem dX13_leg_18 : decode cX13_leg 18 = .ok (.iload_n 1, 1) := by decide +kernel
theorem dX13_leg_19 : decode cX13_leg 19 = .ok (.bipush 10, 2) := by decide +kernel
theorem dX13_leg_21 : decode cX13_leg 21 = .ok (.sipush 2000, 3) := by decide +kernel
theorem dX13_leg_24 : decode cX13_leg 24 = .ok (.invokestatic 125, 3) := by decide +kernel
theorem dX13_leg_27 : decode cX13_leg 27 = .ok (.ifCond .eq 15, 3) := by decide +kernel
theorem dX13_leg_30 : decode cX13_leg 30 = .ok (.iload_n 2, 1) := by decide +kernel
theorem dX13_leg_31 : decode cX13_leg 31 = .ok (.bipush 50, 2) := by decide +kernel
theorem dX13_leg_33 : decode cX13_leg 33 = .ok (.sipush 200, 3) := by decide +kernel
theorem dX13_leg_36 : decode cX13_leg 36 = .ok (.invokestatic 125, 3) := by decide +kernel
theorem dX13_leg_39 : decode cX13_leg 39 = .ok (.ifCond .ne 9, 3) := by decide +kernel
theorem dX13_leg_42 : decode cX13_leg 42 = .ok (.aload_n 0, 1) := by decide +kernel
theorem dX13_leg_43 : decode cX13_leg 43 = .ok (.iconst 2, 1) := by decide +kernel
theorem dX13_leg_44 : decode cX13_leg 44 = .ok (.invokevirtual 121, 3) := by decide +kernel
theorem dX13_leg_47 : decode cX13_leg 47 = .ok (.ireturn, 1) := by decide +kernel
theorem dX13_leg_48 : decode cX13_leg 48 = .ok (.aload_n 0, 1) := by decide +kernel
theorem dX13_leg_49 : decode cX13_leg 49 = .ok (.getfield 91, 3) := by decide +kernel
theorem dX13_leg_52 : decode cX13_leg 52 = .ok (.bipush 12, 2) := by decide +kernel
theorem dX13_leg_54 : decode cX13_leg 54 = .ok (.if_icmp .ne 9, 3) := by decide +kernel
theorem dX13_leg_57 : decode cX13_leg 57 = .ok (.aload_n 0, 1) := by decide +kernel
theorem dX13_leg_58 : decode cX13_leg 58 = .ok (.iconst 3, 1) := by decide +kernel
theorem dX13_leg_59 : decode cX13_leg 59 = .ok (.invokevirtual 121, 3) := by decide +kernel
theorem dX13_leg_62 : decode cX13_leg 62 = .ok (.ireturn, 1) := by decide +kernel
theorem dX13_leg_63 : decode cX13_leg 63 = .ok (.aload_n 0, 1) := by decide +kernel
theorem dX13_leg_64 : decode cX13_leg 64 = .ok (.getfield 22, 3) := by decide +kernel
theorem dX13_leg_67 : decode cX13_leg 67 = .ok (.aload_n 0, 1) := by decide +kernel
theorem dX13_leg_68 : decode cX13_leg 68 = .ok (.getfield 91, 3) := by decide +kernel
theorem dX13_leg_71 : decode cX13_leg 71 = .ok (.iload_n 1, 1) := by decide +kernel
theorem dX13_leg_72 : decode cX13_leg 72 = .ok (.iastore, 1) := by decide +kernel
theorem dX13_leg_73 : decode cX13_leg 73 = .ok (.aload_n 0, 1) := by decide +kernel
theorem dX13_leg_74 : decode cX13_leg 74 = .ok (.getfield 26, 3) := by decide +kernel
theorem dX13_leg_77 : decode cX13_leg 77 = .ok (.aload_n 0, 1) := by decide +kernel
theorem dX13_leg_78 : decode cX13_leg 78 = .ok (.getfield 91, 3) := by decide +kernel
theorem dX13_leg_81 : decode cX13_leg 81 = .ok (.iload_n 2, 1) := by decide +kernel
theorem dX13_leg_82 : decode cX13_leg 82 = .ok (.iastore, 1) := by decide +kernel
theorem dX13_leg_83 : decode cX13_leg 83 = .ok (.aload_n 0, 1) := by decide +kernel
theorem dX13_leg_84 : decode cX13_leg 84 = .ok (.dup, 1) := by decide +kernel
theorem dX13_leg_85 : decode cX13_leg 85 = .ok (.getfield 91, 3) := by decide +kernel
theorem dX13_leg_88 : decode cX13_leg 88 = .ok (.iconst 1, 1) := by decide +kernel
theorem dX13_leg_89 : decode cX13_leg 89 = .ok (.iadd, 1) := by decide +kernel
theorem dX13_leg_90 : decode cX13_leg 90 = .ok (.putfield 91, 3) := by decide +kernel
theorem dX13_leg_93 : decode cX13_leg 93 = .ok (.aload_n 0, 1) := by decide +kernel
theorem dX13_leg_94 : decode cX13_leg 94 = .ok (.aload_n 0, 1) := by decide +kernel
theorem dX13_leg_95 : decode cX13_leg 95 = .ok (.getfield 91, 3) := by decide +kernel
theorem dX13_leg_98 : decode cX13_leg 98 = .ok (.invokevirtual 129, 3) := by decide +kernel
theorem dX13_leg_101 : decode cX13_leg 101 = .ok (.ireturn, 1) := by decide +kernel
theorem dX13_cold_0 : decode cX13_cold 0 = .ok (.aload_n 0, 1) := by decide +kernel
theorem dX13_cold_1 : decode cX13_cold 1 = .ok (.iconst 0, 1) := by decide +kernel
theorem dX13_cold_2 : decode cX13_cold 2 = .ok (.putfield 1, 3) := by decide +kernel
theorem dX13_cold_5 : decode cX13_cold 5 = .ok (.iload_n 1, 1) := by decide +kernel
theorem dX13_cold_6 : decode cX13_cold 6 = .ok (.ifCond .lt 26, 3) := by decide +kernel
theorem dX13_cold_9 : decode cX13_cold 9 = .ok (.iload_n 1, 1) := by decide +kernel
theorem dX13_cold_10 : decode cX13_cold 10 = .ok (.iload_n 2, 1) := by decide +kernel
theorem dX13_cold_11 : decode cX13_cold 11 = .ok (.if_icmp .gt 21, 3) := by decide +kernel
theorem dX13_cold_14 : decode cX13_cold 14 = .ok (.iload_n 2, 1) := by decide +kernel
theorem dX13_cold_15 : decode cX13_cold 15 = .ok (.sipush 334, 3) := by decide +kernel
theorem dX13_cold_18 : decode cX13_cold 18 = .ok (.if_icmp .ge 14, 3) := by decide +kernel
theorem dX13_cold_21 : decode cX13_cold 21 = .ok (.iload_n 3, 1) := by decide +kernel
theorem dX13_cold_22 : decode cX13_cold 22 = .ok (.bipush (-50), 2) := by decide +kernel
theorem dX13_cold_24 : decode cX13_cold 24 = .ok (.bipush 20, 2) := by decide +kernel
theorem dX13_cold_26 : decode cX13_cold 26 = .ok (.invokestatic 125, 3) := by decide +kernel
theorem dX13_cold_29 : decode cX13_cold 29 = .ok (.ifCond .ne 9, 3) := by decide +kernel
theorem dX13_cold_32 : decode cX13_cold 32 = .ok (.aload_n 0, 1) := by decide +kernel
theorem dX13_cold_33 : decode cX13_cold 33 = .ok (.iconst 2, 1) := by decide +kernel
theorem dX13_cold_34 : decode cX13_cold 34 = .ok (.invokevirtual 113, 3) := by decide +kernel
theorem dX13_cold_37 : decode cX13_cold 37 = .ok (.ireturn, 1) := by decide +kernel
theorem dX13_cold_38 : decode cX13_cold 38 = .ok (.iload_n 1, 1) := by decide +kernel
theorem dX13_cold_39 : decode cX13_cold 39 = .ok (.istore 4, 2) := by decide +kernel
theorem dX13_cold_41 : decode cX13_cold 41 = .ok (.iload 4, 2) := by decide +kernel
theorem dX13_cold_43 : decode cX13_cold 43 = .ok (.iload_n 2, 1) := by decide +kernel
theorem dX13_cold_44 : decode cX13_cold 44 = .ok (.if_icmp .gt 29, 3) := by decide +kernel
theorem dX13_cold_47 : decode cX13_cold 47 = .ok (.bipush 6, 2) := by decide +kernel
theorem dX13_cold_49 : decode cX13_cold 49 = .ok (.iload 4, 2) := by decide +kernel
theorem dX13_cold_51 : decode cX13_cold 51 = .ok (.imul, 1) := by decide +kernel
theorem dX13_cold_52 : decode cX13_cold 52 = .ok (.aload_n 0, 1) := by decide +kernel
theorem dX13_cold_53 : decode cX13_cold 53 = .ok (.getfield 100, 3) := by decide +kernel
theorem dX13_cold_56 : decode cX13_cold 56 = .ok (.if_icmp .lt 11, 3) := by decide +kernel
theorem dX13_cold_59 : decode cX13_cold 59 = .ok (.aload_n 0, 1) := by decide +kernel
theorem dX13_cold_60 : decode cX13_cold 60 = .ok (.getfield 29, 3) := by decide +kernel
theorem dX13_cold_63 : decode cX13_cold 63 = .ok (.iload 4, 2) := by decide +kernel
theorem dX13_cold_65 : decode cX13_cold 65 = .ok (.iload_n 3, 1) := by decide +kernel
theorem dX13_cold_66 : decode cX13_cold 66 = .ok (.iastore, 1) := by decide +kernel
theorem dX13_cold_67 : decode cX13_cold 67 = .ok (.iinc 4 1, 3) := by decide +kernel
theorem dX13_cold_70 : decode cX13_cold 70 = .ok (.goto (-29), 3) := by decide +kernel
theorem dX13_cold_73 : decode cX13_cold 73 = .ok (.aload_n 0, 1) := by decide +kernel
theorem dX13_cold_74 : decode cX13_cold 74 = .ok (.invokevirtual 117, 3) := by decide +kernel
theorem dX13_cold_77 : decode cX13_cold 77 = .ok (.ireturn, 1) := by decide +kernel
theorem dX13_stop_0 : decode cX13_stop 0 = .ok (.aload_n 0, 1) := by decide +kernel
theorem dX13_stop_1 : decode cX13_stop 1 = .ok (.getfield 61, 3) := by decide +kernel
theorem dX13_stop_4 : decode cX13_stop 4 = .ok (.iload_n 1, 1) := by decide +kernel
theorem dX13_stop_5 : decode cX13_stop 5 = .ok (.putfield 132, 3) := by decide +kernel
theorem dX13_stop_8 : decode cX13_stop 8 = .ok (.aload_n 0, 1) := by decide +kernel
theorem dX13_stop_9 : decode cX13_stop 9 = .ok (.getfield 61, 3) := by decide +kernel
theorem dX13_stop_12 : decode cX13_stop 12 = .ok (.aload_n 0, 1) := by decide +kernel
theorem dX13_stop_13 : decode cX13_stop 13 = .ok (.getfield 135, 3) := by decide +kernel
theorem dX13_stop_16 : decode cX13_stop 16 = .ok (.putfield 138, 3) := by decide +kernel
theorem dX13_stop_19 : decode cX13_stop 19 = .ok (.aload_n 0, 1) := by decide +kernel
theorem dX13_stop_20 : decode cX13_stop 20 = .ok (.getfield 61, 3) := by decide +kernel
theorem dX13_stop_23 : decode cX13_stop 23 = .ok (.areturn, 1) := by decide +kernel
theorem dX13_byteAt_0 : decode cX13_byteAt 0 = .ok (.iload_n 1, 1) := by decide +kernel
theorem dX13_byteAt_1 : decode cX13_byteAt 1 = .ok (.aload_n 0, 1) := by decide +kernel
theorem dX13_byteAt_2 : decode cX13_byteAt 2 = .ok (.getfield 139, 3) := by decide +kernel
theorem dX13_byteAt_5 : decode cX13_byteAt 5 = .ok (.if_icmp .ge 16, 3) := by decide +kernel
theorem dX13_byteAt_8 : decode cX13_byteAt 8 = .ok (.aload_n 0, 1) := by decide +kernel
theorem dX13_byteAt_9 : decode cX13_byteAt 9 = .ok (.getfield 65, 3) := by decide +kernel
theorem dX13_byteAt_12 : decode cX13_byteAt 12 = .ok (.iload_n 1, 1) := by decide +kernel
theorem dX13_byteAt_13 : decode cX13_byteAt 13 = .ok (.baload, 1) := by decide +kernel
theorem dX13_byteAt_14 : decode cX13_byteAt 14 = .ok (.sipush 255, 3) := by decide +kernel
theorem dX13_byteAt_17 : decode cX13_byteAt 17 = .ok (.iand, 1) := by decide +kernel
theorem dX13_byteAt_18 : decode cX13_byteAt 18 = .ok (.goto 4, 3) := by decide +kernel
theorem dX13_byteAt_21 : decode cX13_byteAt 21 = .ok (.iconst (-1), 1) := by decide +kernel
theorem dX13_byteAt_22 : decode cX13_byteAt 22 = .ok (.ireturn, 1) := by decide +kernel
theorem dX13_isLetter_0 : decode cX13_isLetter 0 = .ok (.iload_n 0, 1) := by decide +kernel
theorem dX13_isLetter_1 : decode cX13_isLetter 1 = .ok (.bipush 97, 2) := by decide +kernel
theorem dX13_isLetter_3 : decode cX13_isLetter 3 = .ok (.if_icmp .lt 13, 3) := by decide +kernel
theorem dX13_isLetter_6 : decode cX13_isLetter 6 = .ok (.iload_n 0, 1) := by decide +kernel
theorem dX13_isLetter_7 : decode cX13_isLetter 7 = .ok (.bipush 122, 2) := by decide +kernel
theorem dX13_isLetter_9 : decode cX13_isLetter 9 = .ok (.if_icmp .gt 7, 3) := by decide +kernel
theorem dX13_isLetter_12 : decode cX13_isLetter 12 = .ok (.iconst 1, 1) := by decide +kernel
theorem dX13_isLetter_13 : decode cX13_isLetter 13 = .ok (.goto 4, 3) := by decide +kernel
theorem dX13_isLetter_16 : decode cX13_isLetter 16 = .ok (.iconst 0, 1) := by decide +kernel
theorem dX13_isLetter_17 : decode cX13_isLetter 17 = .ok (.ireturn, 1) := by decide +kernel
theorem dX13_isDigit_0 : decode cX13_isDigit 0 = .ok (.iload_n 0, 1) := by decide +kernel
theorem dX13_isDigit_1 : decode cX13_isDigit 1 = .ok (.bipush 48, 2) := by decide +kernel
theorem dX13_isDigit_3 : decode cX13_isDigit 3 = .ok (.if_icmp .lt 13, 3) := by decide +kernel
theorem dX13_isDigit_6 : decode cX13_isDigit 6 = .ok (.iload_n 0, 1) := by decide +kernel
theorem dX13_isDigit_7 : decode cX13_isDigit 7 = .ok (.bipush 57, 2) := by decide +kernel
theorem dX13_isDigit_9 : decode cX13_isDigit 9 = .ok (.if_icmp .gt 7, 3) := by decide +kernel
theorem dX13_isDigit_12 : decode cX13_isDigit 12 = .ok (.iconst 1, 1) := by decide +kernel
theorem dX13_isDigit_13 : decode cX13_isDigit 13 = .ok (.goto 4, 3) := by decide +kernel
theorem dX13_isDigit_16 : decode cX13_isDigit 16 = .ok (.iconst 0, 1) := by decide +kernel
theorem dX13_isDigit_17 : decode cX13_isDigit 17 = .ok (.ireturn, 1) := by decide +kernel
theorem dX13_wordOf_0 : decode cX13_wordOf 0 = .ok (.lconst 0, 1) := by decide +kernel
theorem dX13_wordOf_1 : decode cX13_wordOf 1 = .ok (.lstore_n 1, 1) := by decide +kernel
theorem dX13_wordOf_2 : decode cX13_wordOf 2 = .ok (.iconst 0, 1) := by decide +kernel
theorem dX13_wordOf_3 : decode cX13_wordOf 3 = .ok (.istore_n 3, 1) := by decide +kernel
theorem dX13_wordOf_4 : decode cX13_wordOf 4 = .ok (.iload_n 3, 1) := by decide +kernel
theorem dX13_wordOf_5 : decode cX13_wordOf 5 = .ok (.aload_n 0, 1) := by decide +kernel
theorem dX13_wordOf_6 : decode cX13_wordOf 6 = .ok (.invokevirtual 142, 3) := by decide +kernel
theorem dX13_wordOf_9 : decode cX13_wordOf 9 = .ok (.if_icmp .ge 27, 3) := by decide +kernel
theorem dX13_wordOf_12 : decode cX13_wordOf 12 = .ok (.ldc2_w 147, 3) := by decide +kernel
theorem dX13_wordOf_15 : decode cX13_wordOf 15 = .ok (.lload_n 1, 1) := by decide +kernel
theorem dX13_wordOf_16 : decode cX13_wordOf 16 = .ok (.lmul, 1) := by decide +kernel
theorem dX13_wordOf_17 : decode cX13_wordOf 17 = .ok (.aload_n 0, 1) := by decide +kernel
theorem dX13_wordOf_18 : decode cX13_wordOf 18 = .ok (.iload_n 3, 1) := by decide +kernel
theorem dX13_wordOf_19 : decode cX13_wordOf 19 = .ok (.invokevirtual 149, 3) := by decide +kernel
theorem dX13_wordOf_22 : decode cX13_wordOf 22 = .ok (.bipush 97, 2) := by decide +kernel
theorem dX13_wordOf_24 : decode cX13_wordOf 24 = .ok (.isub, 1) := by decide +kernel
theorem dX13_wordOf_25 : decode cX13_wordOf 25 = .ok (.iconst 1, 1) := by decide +kernel
theorem dX13_wordOf_26 : decode cX13_wordOf 26 = .ok (.iadd, 1) := by decide +kernel
theorem dX13_wordOf_27 : decode cX13_wordOf 27 = .ok (.i2l, 1) := by decide +kernel
theorem dX13_wordOf_28 : decode cX13_wordOf 28 = .ok (.ladd, 1) := by decide +kernel
theorem dX13_wordOf_29 : decode cX13_wordOf 29 = .ok (.lstore_n 1, 1) := by decide +kernel
theorem dX13_wordOf_30 : decode cX13_wordOf 30 = .ok (.iinc 3 1, 3) := by decide +kernel
theorem dX13_wordOf_33 : decode cX13_wordOf 33 = .ok (.goto (-29), 3) := by decide +kernel
theorem dX13_wordOf_36 : decode cX13_wordOf 36 = .ok (.lload_n 1, 1) := by decide +kernel
theorem dX13_wordOf_37 : decode cX13_wordOf 37 = .ok (.lreturn, 1) := by decide +kernel
theorem dX13_next_0 : decode cX13_next 0 = .ok (.aload_n 0, 1) := by decide +kernel
theorem dX13_next_1 : decode cX13_next 1 = .ok (.aload_n 0, 1) := by decide +kernel
theorem dX13_next_2 : decode cX13_next 2 = .ok (.getfield 153, 3) := by decide +kernel
theorem dX13_next_5 : decode cX13_next 5 = .ok (.invokevirtual 156, 3) := by decide +kernel
theorem dX13_next_8 : decode cX13_next 8 = .ok (.bipush 32, 2) := by decide +kernel
theorem dX13_next_10 : decode cX13_next 10 = .ok (.if_icmp .eq 16, 3) := by decide +kernel
theorem dX13_next_13 : decode cX13_next 13 = .ok (.aload_n 0, 1) := by decide +kernel
theorem dX13_next_14 : decode cX13_next 14 = .ok (.aload_n 0, 1) := by decide +kernel
theorem dX13_next_15 : decode cX13_next 15 = .ok (.getfield 153, 3) := by decide +kernel
theorem dX13_next_18 : decode cX13_next 18 = .ok (.invokevirtual 156, 3) := by decide +kernel
theorem dX13_next_21 : decode cX13_next 21 = .ok (.bipush 10, 2) := by decide +kernel
theorem dX13_next_23 : decode cX13_next 23 = .ok (.if_icmp .ne 16, 3) := by decide +kernel
theorem dX13_next_26 : decode cX13_next 26 = .ok (.aload_n 0, 1) := by decide +kernel
theorem dX13_next_27 : decode cX13_next 27 = .ok (.dup, 1) := by decide +kernel
theorem dX13_next_28 : decode cX13_next 28 = .ok (.getfield 153, 3) := by decide +kernel
theorem dX13_next_31 : decode cX13_next 31 = .ok (.iconst 1, 1) := by decide +kernel
theorem dX13_next_32 : decode cX13_next 32 = .ok (.iadd, 1) := by decide +kernel
theorem dX13_next_33 : decode cX13_next 33 = .ok (.putfield 153, 3) := by decide +kernel
theorem dX13_next_36 : decode cX13_next 36 = .ok (.goto (-36), 3) := by decide +kernel
theorem dX13_next_39 : decode cX13_next 39 = .ok (.aload_n 0, 1) := by decide +kernel
theorem dX13_next_40 : decode cX13_next 40 = .ok (.aload_n 0, 1) := by decide +kernel
theorem dX13_next_41 : decode cX13_next 41 = .ok (.getfield 153, 3) := by decide +kernel
theorem dX13_next_44 : decode cX13_next 44 = .ok (.putfield 135, 3) := by decide +kernel
theorem dX13_next_47 : decode cX13_next 47 = .ok (.aload_n 0, 1) := by decide +kernel
theorem dX13_next_48 : decode cX13_next 48 = .ok (.iconst 0, 1) := by decide +kernel
theorem dX13_next_49 : decode cX13_next 49 = .ok (.putfield 159, 3) := by decide +kernel
theorem dX13_next_52 : decode cX13_next 52 = .ok (.aload_n 0, 1) := by decide +kernel
theorem dX13_next_53 : decode cX13_next 53 = .ok (.iconst 0, 1) := by decide +kernel
theorem dX13_next_54 : decode cX13_next 54 = .ok (.putfield 162, 3) := by decide +kernel
theorem dX13_next_57 : decode cX13_next 57 = .ok (.aload_n 0, 1) := by decide +kernel
theorem dX13_next_58 : decode cX13_next 58 = .ok (.aload_n 0, 1) := by decide +kernel
theorem dX13_next_59 : decode cX13_next 59 = .ok (.getfield 153, 3) := by decide +kernel
theorem dX13_next_62 : decode cX13_next 62 = .ok (.invokevirtual 156, 3) := by decide +kernel
theorem dX13_next_65 : decode cX13_next 65 = .ok (.istore_n 1, 1) := by decide +kernel
theorem dX13_next_66 : decode cX13_next 66 = .ok (.iconst 0, 1) := by decide +kernel
theorem dX13_next_67 : decode cX13_next 67 = .ok (.istore_n 2, 1) := by decide +kernel
theorem dX13_next_68 : decode cX13_next 68 = .ok (.iload_n 1, 1) := by decide +kernel
theorem dX13_next_69 : decode cX13_next 69 = .ok (.iconst (-1), 1) := by decide +kernel
theorem dX13_next_70 : decode cX13_next 70 = .ok (.if_icmp .ne 11, 3) := by decide +kernel
theorem dX13_next_73 : decode cX13_next 73 = .ok (.aload_n 0, 1) := by decide +kernel
theorem dX13_next_74 : decode cX13_next 74 = .ok (.iconst 1, 1) := by decide +kernel
theorem dX13_next_75 : decode cX13_next 75 = .ok (.putfield 159, 3) := by decide +kernel
theorem dX13_next_78 : decode cX13_next 78 = .ok (.goto 213, 3) := by decide +kernel
theorem dX13_next_81 : decode cX13_next 81 = .ok (.iload_n 1, 1) := by decide +kernel
theorem dX13_next_82 : decode cX13_next 82 = .ok (.invokestatic 165, 3) := by decide +kernel
theorem dX13_next_85 : decode cX13_next 85 = .ok (.ifCond .eq 85, 3) := by decide +kernel
theorem dX13_next_88 : decode cX13_next 88 = .ok (.aload_n 0, 1) := by decide +kernel
theorem dX13_next_89 : decode cX13_next 89 = .ok (.lconst 0, 1) := by decide +kernel
theorem dX13_next_90 : decode cX13_next 90 = .ok (.putfield 168, 3) := by decide +kernel
theorem dX13_next_93 : decode cX13_next 93 = .ok (.aload_n 0, 1) := by decide +kernel
theorem dX13_next_94 : decode cX13_next 94 = .ok (.aload_n 0, 1) := by decide +kernel
theorem dX13_next_95 : decode cX13_next 95 = .ok (.getfield 153, 3) := by decide +kernel
theorem dX13_next_98 : decode cX13_next 98 = .ok (.invokevirtual 156, 3) := by decide +kernel
theorem dX13_next_101 : decode cX13_next 101 = .ok (.invokestatic 165, 3) := by decide +kernel
theorem dX13_next_104 : decode cX13_next 104 = .ok (.ifCond .eq 52, 3) := by decide +kernel
theorem dX13_next_107 : decode cX13_next 107 = .ok (.iload_n 2, 1) := by decide +kernel
theorem dX13_next_108 : decode cX13_next 108 = .ok (.bipush 8, 2) := by decide +kernel
theorem dX13_next_110 : decode cX13_next 110 = .ok (.if_icmp .ge 30, 3) := by decide +kernel
theorem dX13_next_113 : decode cX13_next 113 = .ok (.aload_n 0, 1) := by decide +kernel
theorem dX13_next_114 : decode cX13_next 114 = .ok (.ldc2_w 147, 3) := by decide +kernel
theorem dX13_next_117 : decode cX13_next 117 = .ok (.aload_n 0, 1) := by decide +kernel
theorem dX13_next_118 : decode cX13_next 118 = .ok (.getfield 168, 3) := by decide +kernel
theorem dX13_next_121 : decode cX13_next 121 = .ok (.lmul, 1) := by decide +kernel
theorem dX13_next_122 : decode cX13_next 122 = .ok (.aload_n 0, 1) := by decide +kernel
theorem dX13_next_123 : decode cX13_next 123 = .ok (.aload_n 0, 1) := by decide +kernel
theorem dX13_next_124 : decode cX13_next 124 = .ok (.getfield 153, 3) := by decide +kernel
theorem dX13_next_127 : decode cX13_next 127 = .ok (.invokevirtual 156, 3) := by decide +kernel
theorem dX13_next_130 : decode cX13_next 130 = .ok (.bipush 97, 2) := by decide +kernel
theorem dX13_next_132 : decode cX13_next 132 = .ok (.isub, 1) := by decide +kernel
theorem dX13_next_133 : decode cX13_next 133 = .ok (.iconst 1, 1) := by decide +kernel
theorem dX13_next_134 : decode cX13_next 134 = .ok (.iadd, 1) := by decide +kernel
theorem dX13_next_135 : decode cX13_next 135 = .ok (.i2l, 1) := by decide +kernel
theorem dX13_next_136 : decode cX13_next 136 = .ok (.ladd, 1) := by decide +kernel
theorem dX13_next_137 : decode cX13_next 137 = .ok (.putfield 168, 3) := by decide +kernel
theorem dX13_next_140 : decode cX13_next 140 = .ok (.iinc 2 1, 3) := by decide +kernel
theorem dX13_next_143 : decode cX13_next 143 = .ok (.aload_n 0, 1) := by decide +kernel
theorem dX13_next_144 : decode cX13_next 144 = .ok (.dup, 1) := by decide +kernel
theorem dX13_next_145 : decode cX13_next 145 = .ok (.getfield 153, 3) := by decide +kernel
theorem dX13_next_148 : decode cX13_next 148 = .ok (.iconst 1, 1) := by decide +kernel
theorem dX13_next_149 : decode cX13_next 149 = .ok (.iadd, 1) := by decide +kernel
theorem dX13_next_150 : decode cX13_next 150 = .ok (.putfield 153, 3) := by decide +kernel
theorem dX13_next_153 : decode cX13_next 153 = .ok (.goto (-60), 3) := by decide +kernel
theorem dX13_next_156 : decode cX13_next 156 = .ok (.iload_n 2, 1) := by decide +kernel
theorem dX13_next_157 : decode cX13_next 157 = .ok (.bipush 9, 2) := by decide +kernel
theorem dX13_next_159 : decode cX13_next 159 = .ok (.if_icmp .ge 132, 3) := by decide +kernel
theorem dX13_next_162 : decode cX13_next 162 = .ok (.aload_n 0, 1) := by decide +kernel
theorem dX13_next_163 : decode cX13_next 163 = .ok (.iconst 2, 1) := by decide +kernel
theorem dX13_next_164 : decode cX13_next 164 = .ok (.putfield 159, 3) := by decide +kernel
theorem dX13_next_167 : decode cX13_next 167 = .ok (.goto 124, 3) := by decide +kernel
theorem dX13_next_170 : decode cX13_next 170 = .ok (.iload_n 1, 1) := by decide +kernel
theorem dX13_next_171 : decode cX13_next 171 = .ok (.invokestatic 172, 3) := by decide +kernel
theorem dX13_next_174 : decode cX13_next 174 = .ok (.ifCond .eq 79, 3) := by decide +kernel
theorem dX13_next_177 : decode cX13_next 177 = .ok (.aload_n 0, 1) := by decide +kernel
theorem dX13_next_178 : decode cX13_next 178 = .ok (.iconst 0, 1) := by decide +kernel
theorem dX13_next_179 : decode cX13_next 179 = .ok (.putfield 175, 3) := by decide +kernel
theorem dX13_next_182 : decode cX13_next 182 = .ok (.aload_n 0, 1) := by decide +kernel
theorem dX13_next_183 : decode cX13_next 183 = .ok (.aload_n 0, 1) := by decide +kernel
theorem dX13_next_184 : decode cX13_next 184 = .ok (.getfield 153, 3) := by decide +kernel
theorem dX13_next_187 : decode cX13_next 187 = .ok (.invokevirtual 156, 3) := by decide +kernel
theorem dX13_next_190 : decode cX13_next 190 = .ok (.invokestatic 172, 3) := by decide +kernel
theorem dX13_next_193 : decode cX13_next 193 = .ok (.ifCond .eq 47, 3) := by decide +kernel
theorem dX13_next_196 : decode cX13_next 196 = .ok (.iload_n 2, 1) := by decide +kernel
theorem dX13_next_197 : decode cX13_next 197 = .ok (.iconst 4, 1) := by decide +kernel
theorem dX13_next_198 : decode cX13_next 198 = .ok (.if_icmp .ge 26, 3) := by decide +kernel
theorem dX13_next_201 : decode cX13_next 201 = .ok (.aload_n 0, 1) := by decide +kernel
theorem dX13_next_202 : decode cX13_next 202 = .ok (.bipush 10, 2) := by decide +kernel
theorem dX13_next_204 : decode cX13_next 204 = .ok (.aload_n 0, 1) := by decide +kernel
theorem dX13_next_205 : decode cX13_next 205 = .ok (.getfield 175, 3) := by decide +kernel
theorem dX13_next_208 : decode cX13_next 208 = .ok (.imul, 1) := by decide +kernel
theorem dX13_next_209 : decode cX13_next 209 = .ok (.aload_n 0, 1) := by decide +kernel
theorem dX13_next_210 : decode cX13_next 210 = .ok (.aload_n 0, 1) := by decide +kernel
theorem dX13_next_211 : decode cX13_next 211 = .ok (.getfield 153, 3) := by decide +kernel
theorem dX13_next_214 : decode cX13_next 214 = .ok (.invokevirtual 156, 3) := by decide +kernel
theorem dX13_next_217 : decode cX13_next 217 = .ok (.iadd, 1) := by decide +kernel
theorem dX13_next_218 : decode cX13_next 218 = .ok (.bipush 48, 2) := by decide +kernel
theorem dX13_next_220 : decode cX13_next 220 = .ok (.isub, 1) := by decide +kernel
theorem dX13_next_221 : decode cX13_next 221 = .ok (.putfield 175, 3) := by decide +kernel
theorem dX13_next_224 : decode cX13_next 224 = .ok (.iinc 2 1, 3) := by decide +kernel
theorem dX13_next_227 : decode cX13_next 227 = .ok (.aload_n 0, 1) := by decide +kernel
theorem dX13_next_228 : decode cX13_next 228 = .ok (.dup, 1) := by decide +kernel
theorem dX13_next_229 : decode cX13_next 229 = .ok (.getfield 153, 3) := by decide +kernel
theorem dX13_next_232 : decode cX13_next 232 = .ok (.iconst 1, 1) := by decide +kernel
theorem dX13_next_233 : decode cX13_next 233 = .ok (.iadd, 1) := by decide +kernel
theorem dX13_next_234 : decode cX13_next 234 = .ok (.putfield 153, 3) := by decide +kernel
theorem dX13_next_237 : decode cX13_next 237 = .ok (.goto (-55), 3) := by decide +kernel
theorem dX13_next_240 : decode cX13_next 240 = .ok (.iload_n 2, 1) := by decide +kernel
theorem dX13_next_241 : decode cX13_next 241 = .ok (.iconst 5, 1) := by decide +kernel
theorem dX13_next_242 : decode cX13_next 242 = .ok (.if_icmp .ge 49, 3) := by decide +kernel
theorem dX13_next_245 : decode cX13_next 245 = .ok (.aload_n 0, 1) := by decide +kernel
theorem dX13_next_246 : decode cX13_next 246 = .ok (.iconst 3, 1) := by decide +kernel
theorem dX13_next_247 : decode cX13_next 247 = .ok (.putfield 159, 3) := by decide +kernel
theorem dX13_next_250 : decode cX13_next 250 = .ok (.goto 41, 3) := by decide +kernel
theorem dX13_next_253 : decode cX13_next 253 = .ok (.iload_n 1, 1) := by decide +kernel
theorem dX13_next_254 : decode cX13_next 254 = .ok (.bipush 60, 2) := by decide +kernel
theorem dX13_next_256 : decode cX13_next 256 = .ok (.if_icmp .eq 15, 3) := by decide +kernel
theorem dX13_next_259 : decode cX13_next 259 = .ok (.iload_n 1, 1) := by decide +kernel
theorem dX13_next_260 : decode cX13_next 260 = .ok (.bipush 62, 2) := by decide +kernel
theorem dX13_next_262 : decode cX13_next 262 = .ok (.if_icmp .eq 9, 3) := by decide +kernel
theorem dX13_next_265 : decode cX13_next 265 = .ok (.iload_n 1, 1) := by decide +kernel
theorem dX13_next_266 : decode cX13_next 266 = .ok (.bipush 59, 2) := by decide +kernel
theorem dX13_next_268 : decode cX13_next 268 = .ok (.if_icmp .ne 23, 3) := by decide +kernel
theorem dX13_next_271 : decode cX13_next 271 = .ok (.aload_n 0, 1) := by decide +kernel
theorem dX13_next_272 : decode cX13_next 272 = .ok (.iconst 4, 1) := by decide +kernel
theorem dX13_next_273 : decode cX13_next 273 = .ok (.putfield 159, 3) := by decide +kernel
theorem dX13_next_276 : decode cX13_next 276 = .ok (.aload_n 0, 1) := by decide +kernel
theorem dX13_next_277 : decode cX13_next 277 = .ok (.iload_n 1, 1) := by decide +kernel
theorem dX13_next_278 : decode cX13_next 278 = .ok (.putfield 162, 3) := by decide +kernel
theorem dX13_next_281 : decode cX13_next 281 = .ok (.aload_n 0, 1) := by decide +kernel
theorem dX13_next_282 : decode cX13_next 282 = .ok (.dup, 1) := by decide +kernel
theorem dX13_next_283 : decode cX13_next 283 = .ok (.getfield 153, 3) := by decide +kernel
theorem dX13_next_286 : decode cX13_next 286 = .ok (.iconst 1, 1) := by decide +kernel
theorem dX13_next_287 : decode cX13_next 287 = .ok (.iadd, 1) := by decide +kernel
theorem dX13_next_288 : decode cX13_next 288 = .ok (.putfield 153, 3) := by decide +kernel
theorem dX13_next_291 : decode cX13_next 291 = .ok (.return_, 1) := by decide +kernel
theorem dX13_isWord_0 : decode cX13_isWord 0 = .ok (.aload_n 0, 1) := by decide +kernel
theorem dX13_isWord_1 : decode cX13_isWord 1 = .ok (.getfield 159, 3) := by decide +kernel
theorem dX13_isWord_4 : decode cX13_isWord 4 = .ok (.iconst 2, 1) := by decide +kernel
theorem dX13_isWord_5 : decode cX13_isWord 5 = .ok (.if_icmp .ne 19, 3) := by decide +kernel
theorem dX13_isWord_8 : decode cX13_isWord 8 = .ok (.aload_n 0, 1) := by decide +kernel
theorem dX13_isWord_9 : decode cX13_isWord 9 = .ok (.getfield 168, 3) := by decide +kernel
theorem dX13_isWord_12 : decode cX13_isWord 12 = .ok (.aload_n 1, 1) := by decide +kernel
theorem dX13_isWord_13 : decode cX13_isWord 13 = .ok (.invokestatic 178, 3) := by decide +kernel
theorem dX13_isWord_16 : decode cX13_isWord 16 = .ok (.lcmp, 1) := by decide +kernel
theorem dX13_isWord_17 : decode cX13_isWord 17 = .ok (.ifCond .ne 7, 3) := by decide +kernel
theorem dX13_isWord_20 : decode cX13_isWord 20 = .ok (.iconst 1, 1) := by decide +kernel
theorem dX13_isWord_21 : decode cX13_isWord 21 = .ok (.goto 4, 3) := by decide +kernel
theorem dX13_isWord_24 : decode cX13_isWord 24 = .ok (.iconst 0, 1) := by decide +kernel
theorem dX13_isWord_25 : decode cX13_isWord 25 = .ok (.ireturn, 1) := by decide +kernel
theorem dX13_is_0 : decode cX13_is 0 = .ok (.aload_n 0, 1) := by decide +kernel
theorem dX13_is_1 : decode cX13_is 1 = .ok (.getfield 159, 3) := by decide +kernel
theorem dX13_is_4 : decode cX13_is 4 = .ok (.iconst 4, 1) := by decide +kernel
theorem dX13_is_5 : decode cX13_is 5 = .ok (.if_icmp .ne 15, 3) := by decide +kernel
theorem dX13_is_8 : decode cX13_is 8 = .ok (.aload_n 0, 1) := by decide +kernel
theorem dX13_is_9 : decode cX13_is 9 = .ok (.getfield 162, 3) := by decide +kernel
theorem dX13_is_12 : decode cX13_is 12 = .ok (.iload_n 1, 1) := by decide +kernel
theorem dX13_is_13 : decode cX13_is 13 = .ok (.if_icmp .ne 7, 3) := by decide +kernel
theorem dX13_is_16 : decode cX13_is 16 = .ok (.iconst 1, 1) := by decide +kernel
theorem dX13_is_17 : decode cX13_is 17 = .ok (.goto 4, 3) := by decide +kernel
theorem dX13_is_20 : decode cX13_is 20 = .ok (.iconst 0, 1) := by decide +kernel
theorem dX13_is_21 : decode cX13_is 21 = .ok (.ireturn, 1) := by decide +kernel
theorem dX13_needWord_0 : decode cX13_needWord 0 = .ok (.aload_n 0, 1) := by decide +kernel
theorem dX13_needWord_1 : decode cX13_needWord 1 = .ok (.aload_n 1, 1) := by decide +kernel
theorem dX13_needWord_2 : decode cX13_needWord 2 = .ok (.invokevirtual 182, 3) := by decide +kernel
theorem dX13_needWord_5 : decode cX13_needWord 5 = .ok (.ifCond .ne 9, 3) := by decide +kernel
theorem dX13_needWord_8 : decode cX13_needWord 8 = .ok (.aload_n 0, 1) := by decide +kernel
theorem dX13_needWord_9 : decode cX13_needWord 9 = .ok (.iconst 1, 1) := by decide +kernel
theorem dX13_needWord_10 : decode cX13_needWord 10 = .ok (.invokevirtual 186, 3) := by decide +kernel
theorem dX13_needWord_13 : decode cX13_needWord 13 = .ok (.athrow, 1) := by decide +kernel
theorem dX13_needWord_14 : decode cX13_needWord 14 = .ok (.aload_n 0, 1) := by decide +kernel
theorem dX13_needWord_15 : decode cX13_needWord 15 = .ok (.invokevirtual 189, 3) := by decide +kernel
theorem dX13_needWord_18 : decode cX13_needWord 18 = .ok (.return_, 1) := by decide +kernel
theorem dX13_needNumber_0 : decode cX13_needNumber 0 = .ok (.aload_n 0, 1) := by decide +kernel
theorem dX13_needNumber_1 : decode cX13_needNumber 1 = .ok (.getfield 159, 3) := by decide +kernel
theorem dX13_needNumber_4 : decode cX13_needNumber 4 = .ok (.iconst 3, 1) := by decide +kernel
theorem dX13_needNumber_5 : decode cX13_needNumber 5 = .ok (.if_icmp .eq 9, 3) := by decide +kernel
theorem dX13_needNumber_8 : decode cX13_needNumber 8 = .ok (.aload_n 0, 1) := by decide +kernel
theorem dX13_needNumber_9 : decode cX13_needNumber 9 = .ok (.iconst 1, 1) := by decide +kernel
theorem dX13_needNumber_10 : decode cX13_needNumber 10 = .ok (.invokevirtual 186, 3) := by decide +kernel
theorem dX13_needNumber_13 : decode cX13_needNumber 13 = .ok (.athrow, 1) := by decide +kernel
theorem dX13_needNumber_14 : decode cX13_needNumber 14 = .ok (.aload_n 0, 1) := by decide +kernel
theorem dX13_needNumber_15 : decode cX13_needNumber 15 = .ok (.getfield 175, 3) := by decide +kernel
theorem dX13_needNumber_18 : decode cX13_needNumber 18 = .ok (.istore_n 1, 1) := by decide +kernel
theorem dX13_needNumber_19 : decode cX13_needNumber 19 = .ok (.aload_n 0, 1) := by decide +kernel
theorem dX13_needNumber_20 : decode cX13_needNumber 20 = .ok (.invokevirtual 189, 3) := by decide +kernel
theorem dX13_needNumber_23 : decode cX13_needNumber 23 = .ok (.iload_n 1, 1) := by decide +kernel
theorem dX13_needNumber_24 : decode cX13_needNumber 24 = .ok (.ireturn, 1) := by decide +kernel
theorem dX13_actHere_0 : decode cX13_actHere 0 = .ok (.aload_n 0, 1) := by decide +kernel
theorem dX13_actHere_1 : decode cX13_actHere 1 = .ok (.ldc 192, 2) := by decide +kernel
theorem dX13_actHere_3 : decode cX13_actHere 3 = .ok (.invokevirtual 182, 3) := by decide +kernel
theorem dX13_actHere_6 : decode cX13_actHere 6 = .ok (.ifCond .eq 7, 3) := by decide +kernel
theorem dX13_actHere_9 : decode cX13_actHere 9 = .ok (.iconst 0, 1) := by decide +kernel
theorem dX13_actHere_10 : decode cX13_actHere 10 = .ok (.goto 43, 3) := by decide +kernel
theorem dX13_actHere_13 : decode cX13_actHere 13 = .ok (.aload_n 0, 1) := by decide +kernel
theorem dX13_actHere_14 : decode cX13_actHere 14 = .ok (.ldc 194, 2) := by decide +kernel
theorem dX13_actHere_16 : decode cX13_actHere 16 = .ok (.invokevirtual 182, 3) := by decide +kernel
theorem dX13_actHere_19 : decode cX13_actHere 19 = .ok (.ifCond .eq 7, 3) := by decide +kernel
theorem dX13_actHere_22 : decode cX13_actHere 22 = .ok (.iconst 1, 1) := by decide +kernel
theorem dX13_actHere_23 : decode cX13_actHere 23 = .ok (.goto 30, 3) := by decide +kernel
theorem dX13_actHere_26 : decode cX13_actHere 26 = .ok (.aload_n 0, 1) := by decide +kernel
theorem dX13_actHere_27 : decode cX13_actHere 27 = .ok (.ldc 196, 2) := by decide +kernel
theorem dX13_actHere_29 : decode cX13_actHere 29 = .ok (.invokevirtual 182, 3) := by decide +kernel
theorem dX13_actHere_32 : decode cX13_actHere 32 = .ok (.ifCond .eq 7, 3) := by decide +kernel
theorem dX13_actHere_35 : decode cX13_actHere 35 = .ok (.iconst 2, 1) := by decide +kernel
theorem dX13_actHere_36 : decode cX13_actHere 36 = .ok (.goto 17, 3) := by decide +kernel
theorem dX13_actHere_39 : decode cX13_actHere 39 = .ok (.aload_n 0, 1) := by decide +kernel
theorem dX13_actHere_40 : decode cX13_actHere 40 = .ok (.ldc 198, 2) := by decide +kernel
theorem dX13_actHere_42 : decode cX13_actHere 42 = .ok (.invokevirtual 182, 3) := by decide +kernel
theorem dX13_actHere_45 : decode cX13_actHere 45 = .ok (.ifCond .eq 7, 3) := by decide +kernel
theorem dX13_actHere_48 : decode cX13_actHere 48 = .ok (.iconst 3, 1) := by decide +kernel
theorem dX13_actHere_49 : decode cX13_actHere 49 = .ok (.goto 4, 3) := by decide +kernel
theorem dX13_actHere_52 : decode cX13_actHere 52 = .ok (.iconst (-1), 1) := by decide +kernel
theorem dX13_actHere_53 : decode cX13_actHere 53 = .ok (.ireturn, 1) := by decide +kernel
theorem dX13_nameHere_0 : decode cX13_nameHere 0 = .ok (.aload_n 0, 1) := by decide +kernel
theorem dX13_nameHere_1 : decode cX13_nameHere 1 = .ok (.ldc 200, 2) := by decide +kernel
theorem dX13_nameHere_3 : decode cX13_nameHere 3 = .ok (.invokevirtual 182, 3) := by decide +kernel
theorem dX13_nameHere_6 : decode cX13_nameHere 6 = .ok (.ifCond .eq 7, 3) := by decide +kernel
theorem dX13_nameHere_9 : decode cX13_nameHere 9 = .ok (.iconst 0, 1) := by decide +kernel
theorem dX13_nameHere_10 : decode cX13_nameHere 10 = .ok (.goto 56, 3) := by decide +kernel
theorem dX13_nameHere_13 : decode cX13_nameHere 13 = .ok (.aload_n 0, 1) := by decide +kernel
theorem dX13_nameHere_14 : decode cX13_nameHere 14 = .ok (.ldc 202, 2) := by decide +kernel
theorem dX13_nameHere_16 : decode cX13_nameHere 16 = .ok (.invokevirtual 182, 3) := by decide +kernel
theorem dX13_nameHere_19 : decode cX13_nameHere 19 = .ok (.ifCond .eq 7, 3) := by decide +kernel
theorem dX13_nameHere_22 : decode cX13_nameHere 22 = .ok (.iconst 1, 1) := by decide +kernel
theorem dX13_nameHere_23 : decode cX13_nameHere 23 = .ok (.goto 43, 3) := by decide +kernel
theorem dX13_nameHere_26 : decode cX13_nameHere 26 = .ok (.aload_n 0, 1) := by decide +kernel
theorem dX13_nameHere_27 : decode cX13_nameHere 27 = .ok (.ldc 204, 2) := by decide +kernel
theorem dX13_nameHere_29 : decode cX13_nameHere 29 = .ok (.invokevirtual 182, 3) := by decide +kernel
theorem dX13_nameHere_32 : decode cX13_nameHere 32 = .ok (.ifCond .eq 7, 3) := by decide +kernel
theorem dX13_nameHere_35 : decode cX13_nameHere 35 = .ok (.iconst 2, 1) := by decide +kernel
theorem dX13_nameHere_36 : decode cX13_nameHere 36 = .ok (.goto 30, 3) := by decide +kernel
theorem dX13_nameHere_39 : decode cX13_nameHere 39 = .ok (.aload_n 0, 1) := by decide +kernel
theorem dX13_nameHere_40 : decode cX13_nameHere 40 = .ok (.ldc 206, 2) := by decide +kernel
theorem dX13_nameHere_42 : decode cX13_nameHere 42 = .ok (.invokevirtual 182, 3) := by decide +kernel
theorem dX13_nameHere_45 : decode cX13_nameHere 45 = .ok (.ifCond .eq 7, 3) := by decide +kernel
theorem dX13_nameHere_48 : decode cX13_nameHere 48 = .ok (.iconst 3, 1) := by decide +kernel
theorem dX13_nameHere_49 : decode cX13_nameHere 49 = .ok (.goto 17, 3) := by decide +kernel
theorem dX13_nameHere_52 : decode cX13_nameHere 52 = .ok (.aload_n 0, 1) := by decide +kernel
theorem dX13_nameHere_53 : decode cX13_nameHere 53 = .ok (.ldc 208, 2) := by decide +kernel
theorem dX13_nameHere_55 : decode cX13_nameHere 55 = .ok (.invokevirtual 182, 3) := by decide +kernel
theorem dX13_nameHere_58 : decode cX13_nameHere 58 = .ok (.ifCond .eq 7, 3) := by decide +kernel
theorem dX13_nameHere_61 : decode cX13_nameHere 61 = .ok (.iconst 4, 1) := by decide +kernel
theorem dX13_nameHere_62 : decode cX13_nameHere 62 = .ok (.goto 4, 3) := by decide +kernel
theorem dX13_nameHere_65 : decode cX13_nameHere 65 = .ok (.iconst (-1), 1) := by decide +kernel
theorem dX13_nameHere_66 : decode cX13_nameHere 66 = .ok (.istore_n 1, 1) := by decide +kernel
theorem dX13_nameHere_67 : decode cX13_nameHere 67 = .ok (.iload_n 1, 1) := by decide +kernel
theorem dX13_nameHere_68 : decode cX13_nameHere 68 = .ok (.iconst (-1), 1) := by decide +kernel
theorem dX13_nameHere_69 : decode cX13_nameHere 69 = .ok (.if_icmp .eq 5, 3) := by decide +kernel
theorem dX13_nameHere_72 : decode cX13_nameHere 72 = .ok (.iload_n 1, 1) := by decide +kernel
theorem dX13_nameHere_73 : decode cX13_nameHere 73 = .ok (.ireturn, 1) := by decide +kernel
theorem dX13_nameHere_74 : decode cX13_nameHere 74 = .ok (.aload_n 0, 1) := by decide +kernel
theorem dX13_nameHere_75 : decode cX13_nameHere 75 = .ok (.ldc 209, 2) := by decide +kernel
theorem dX13_nameHere_77 : decode cX13_nameHere 77 = .ok (.invokevirtual 182, 3) := by decide +kernel
theorem dX13_nameHere_80 : decode cX13_nameHere 80 = .ok (.ifCond .eq 7, 3) := by decide +kernel
theorem dX13_nameHere_83 : decode cX13_nameHere 83 = .ok (.iconst 5, 1) := by decide +kernel
theorem dX13_nameHere_84 : decode cX13_nameHere 84 = .ok (.goto 74, 3) := by decide +kernel
theorem dX13_nameHere_87 : decode cX13_nameHere 87 = .ok (.aload_n 0, 1) := by decide +kernel
theorem dX13_nameHere_88 : decode cX13_nameHere 88 = .ok (.ldc 211, 2) := by decide +kernel
theorem dX13_nameHere_90 : decode cX13_nameHere 90 = .ok (.invokevirtual 182, 3) := by decide +kernel
theorem dX13_nameHere_93 : decode cX13_nameHere 93 = .ok (.ifCond .eq 8, 3) := by decide +kernel
theorem dX13_nameHere_96 : decode cX13_nameHere 96 = .ok (.bipush 6, 2) := by decide +kernel
theorem dX13_nameHere_98 : decode cX13_nameHere 98 = .ok (.goto 60, 3) := by decide +kernel
theorem dX13_nameHere_101 : decode cX13_nameHere 101 = .ok (.aload_n 0, 1) := by decide +kernel
theorem dX13_nameHere_102 : decode cX13_nameHere 102 = .ok (.ldc 213, 2) := by decide +kernel
theorem dX13_nameHere_104 : decode cX13_nameHere 104 = .ok (.invokevirtual 182, 3) := by decide +kernel
theorem dX13_nameHere_107 : decode cX13_nameHere 107 = .ok (.ifCond .eq 8, 3) := by decide +kernel
theorem dX13_nameHere_110 : decode cX13_nameHere 110 = .ok (.bipush 7, 2) := by decide +kernel
theorem dX13_nameHere_112 : decode cX13_nameHere 112 = .ok (.goto 46, 3) := by decide +kernel
theorem dX13_nameHere_115 : decode cX13_nameHere 115 = .ok (.aload_n 0, 1) := by decide +kernel
theorem dX13_nameHere_116 : decode cX13_nameHere 116 = .ok (.ldc 215, 2) := by decide +kernel
theorem dX13_nameHere_118 : decode cX13_nameHere 118 = .ok (.invokevirtual 182, 3) := by decide +kernel
theorem dX13_nameHere_121 : decode cX13_nameHere 121 = .ok (.ifCond .eq 8, 3) := by decide +kernel
theorem dX13_nameHere_124 : decode cX13_nameHere 124 = .ok (.bipush 8, 2) := by decide +kernel
theorem dX13_nameHere_126 : decode cX13_nameHere 126 = .ok (.goto 32, 3) := by decide +kernel
theorem dX13_nameHere_129 : decode cX13_nameHere 129 = .ok (.aload_n 0, 1) := by decide +kernel
theorem dX13_nameHere_130 : decode cX13_nameHere 130 = .ok (.ldc 217, 2) := by decide +kernel
theorem dX13_nameHere_132 : decode cX13_nameHere 132 = .ok (.invokevirtual 182, 3) := by decide +kernel
theorem dX13_nameHere_135 : decode cX13_nameHere 135 = .ok (.ifCond .eq 8, 3) := by decide +kernel
theorem dX13_nameHere_138 : decode cX13_nameHere 138 = .ok (.bipush 9, 2) := by decide +kernel
theorem dX13_nameHere_140 : decode cX13_nameHere 140 = .ok (.goto 18, 3) := by decide +kernel
theorem dX13_nameHere_143 : decode cX13_nameHere 143 = .ok (.aload_n 0, 1) := by decide +kernel
theorem dX13_nameHere_144 : decode cX13_nameHere 144 = .ok (.ldc 219, 2) := by decide +kernel
theorem dX13_nameHere_146 : decode cX13_nameHere 146 = .ok (.invokevirtual 182, 3) := by decide +kernel
theorem dX13_nameHere_149 : decode cX13_nameHere 149 = .ok (.ifCond .eq 8, 3) := by decide +kernel
theorem dX13_nameHere_152 : decode cX13_nameHere 152 = .ok (.bipush 10, 2) := by decide +kernel
theorem dX13_nameHere_154 : decode cX13_nameHere 154 = .ok (.goto 4, 3) := by decide +kernel
theorem dX13_nameHere_157 : decode cX13_nameHere 157 = .ok (.iconst (-1), 1) := by decide +kernel
theorem dX13_nameHere_158 : decode cX13_nameHere 158 = .ok (.ireturn, 1) := by decide +kernel
theorem dX13_start_0 : decode cX13_start 0 = .ok (.aload_n 0, 1) := by decide +kernel
theorem dX13_start_1 : decode cX13_start 1 = .ok (.iload_n 1, 1) := by decide +kernel
theorem dX13_start_2 : decode cX13_start 2 = .ok (.putfield 139, 3) := by decide +kernel
theorem dX13_start_5 : decode cX13_start 5 = .ok (.aload_n 0, 1) := by decide +kernel
theorem dX13_start_6 : decode cX13_start 6 = .ok (.iconst 0, 1) := by decide +kernel
theorem dX13_start_7 : decode cX13_start 7 = .ok (.putfield 221, 3) := by decide +kernel
theorem dX13_start_10 : decode cX13_start 10 = .ok (.aload_n 0, 1) := by decide +kernel
theorem dX13_start_11 : decode cX13_start 11 = .ok (.iconst 0, 1) := by decide +kernel
theorem dX13_start_12 : decode cX13_start 12 = .ok (.putfield 153, 3) := by decide +kernel
theorem dX13_start_15 : decode cX13_start 15 = .ok (.aload_n 0, 1) := by decide +kernel
theorem dX13_start_16 : decode cX13_start 16 = .ok (.iconst 0, 1) := by decide +kernel
theorem dX13_start_17 : decode cX13_start 17 = .ok (.putfield 224, 3) := by decide +kernel
theorem dX13_start_20 : decode cX13_start 20 = .ok (.aload_n 0, 1) := by decide +kernel
theorem dX13_start_21 : decode cX13_start 21 = .ok (.invokevirtual 189, 3) := by decide +kernel
theorem dX13_start_24 : decode cX13_start 24 = .ok (.return_, 1) := by decide +kernel
theorem dX13_readPlan_0 : decode cX13_readPlan 0 = .ok (.aload_n 0, 1) := by decide +kernel
theorem dX13_readPlan_1 : decode cX13_readPlan 1 = .ok (.getfield 227, 3) := by decide +kernel
theorem dX13_readPlan_4 : decode cX13_readPlan 4 = .ok (.istore_n 1, 1) := by decide +kernel
theorem dX13_readPlan_5 : decode cX13_readPlan 5 = .ok (.aload_n 0, 1) := by decide +kernel
theorem dX13_readPlan_6 : decode cX13_readPlan 6 = .ok (.getfield 69, 3) := by decide +kernel
theorem dX13_readPlan_9 : decode cX13_readPlan 9 = .ok (.iload_n 1, 1) := by decide +kernel
theorem dX13_readPlan_10 : decode cX13_readPlan 10 = .ok (.iconst 0, 1) := by decide +kernel
theorem dX13_readPlan_11 : decode cX13_readPlan 11 = .ok (.iastore, 1) := by decide +kernel
theorem dX13_readPlan_12 : decode cX13_readPlan 12 = .ok (.iconst 1, 1) := by decide +kernel
theorem dX13_readPlan_13 : decode cX13_readPlan 13 = .ok (.istore_n 2, 1) := by decide +kernel
theorem dX13_readPlan_14 : decode cX13_readPlan 14 = .ok (.iload_n 2, 1) := by decide +kernel
theorem dX13_readPlan_15 : decode cX13_readPlan 15 = .ok (.ifCond .eq 155, 3) := by decide +kernel
theorem dX13_readPlan_18 : decode cX13_readPlan 18 = .ok (.aload_n 0, 1) := by decide +kernel
theorem dX13_readPlan_19 : decode cX13_readPlan 19 = .ok (.ldc 230, 2) := by decide +kernel
theorem dX13_readPlan_21 : decode cX13_readPlan 21 = .ok (.invokevirtual 182, 3) := by decide +kernel
theorem dX13_readPlan_24 : decode cX13_readPlan 24 = .ok (.istore_n 3, 1) := by decide +kernel
theorem dX13_readPlan_25 : decode cX13_readPlan 25 = .ok (.iload_n 3, 1) := by decide +kernel
theorem dX13_readPlan_26 : decode cX13_readPlan 26 = .ok (.ifCond .ne 17, 3) := by decide +kernel
theorem dX13_readPlan_29 : decode cX13_readPlan 29 = .ok (.aload_n 0, 1) := by decide +kernel
theorem dX13_readPlan_30 : decode cX13_readPlan 30 = .ok (.invokevirtual 232, 3) := by decide +kernel
theorem dX13_readPlan_33 : decode cX13_readPlan 33 = .ok (.iconst (-1), 1) := by decide +kernel
theorem dX13_readPlan_34 : decode cX13_readPlan 34 = .ok (.if_icmp .ne 9, 3) := by decide +kernel
theorem dX13_readPlan_37 : decode cX13_readPlan 37 = .ok (.aload_n 0, 1) := by decide +kernel
theorem dX13_readPlan_38 : decode cX13_readPlan 38 = .ok (.iconst 1, 1) := by decide +kernel
theorem dX13_readPlan_39 : decode cX13_readPlan 39 = .ok (.invokevirtual 186, 3) := by decide +kernel
theorem dX13_readPlan_42 : decode cX13_readPlan 42 = .ok (.athrow, 1) := by decide +kernel
theorem dX13_readPlan_43 : decode cX13_readPlan 43 = .ok (.aload_n 0, 1) := by decide +kernel
theorem dX13_readPlan_44 : decode cX13_readPlan 44 = .ok (.getfield 69, 3) := by decide +kernel
theorem dX13_readPlan_47 : decode cX13_readPlan 47 = .ok (.iload_n 1, 1) := by decide +kernel
theorem dX13_readPlan_48 : decode cX13_readPlan 48 = .ok (.iaload, 1) := by decide +kernel
theorem dX13_readPlan_49 : decode cX13_readPlan 49 = .ok (.bipush 12, 2) := by decide +kernel
theorem dX13_readPlan_51 : decode cX13_readPlan 51 = .ok (.if_icmp .ne 9, 3) := by decide +kernel
theorem dX13_readPlan_54 : decode cX13_readPlan 54 = .ok (.aload_n 0, 1) := by decide +kernel
theorem dX13_readPlan_55 : decode cX13_readPlan 55 = .ok (.iconst 3, 1) := by decide +kernel
theorem dX13_readPlan_56 : decode cX13_readPlan 56 = .ok (.invokevirtual 186, 3) := by decide +kernel
theorem dX13_readPlan_59 : decode cX13_readPlan 59 = .ok (.athrow, 1) := by decide +kernel
theorem dX13_readPlan_60 : decode cX13_readPlan 60 = .ok (.bipush 12, 2) := by decide +kernel
theorem dX13_readPlan_62 : decode cX13_readPlan 62 = .ok (.iload_n 1, 1) := by decide +kernel
theorem dX13_readPlan_63 : decode cX13_readPlan 63 = .ok (.imul, 1) := by decide +kernel
theorem dX13_readPlan_64 : decode cX13_readPlan 64 = .ok (.aload_n 0, 1) := by decide +kernel
theorem dX13_readPlan_65 : decode cX13_readPlan 65 = .ok (.getfield 69, 3) := by decide +kernel
theorem dX13_readPlan_68 : decode cX13_readPlan 68 = .ok (.iload_n 1, 1) := by decide +kernel
theorem dX13_readPlan_69 : decode cX13_readPlan 69 = .ok (.iaload, 1) := by decide +kernel
theorem dX13_readPlan_70 : decode cX13_readPlan 70 = .ok (.iadd, 1) := by decide +kernel
theorem dX13_readPlan_71 : decode cX13_readPlan 71 = .ok (.istore 4, 2) := by decide +kernel
theorem dX13_readPlan_73 : decode cX13_readPlan 73 = .ok (.aload_n 0, 1) := by decide +kernel
theorem dX13_readPlan_74 : decode cX13_readPlan 74 = .ok (.getfield 75, 3) := by decide +kernel
theorem dX13_readPlan_77 : decode cX13_readPlan 77 = .ok (.iload 4, 2) := by decide +kernel
theorem dX13_readPlan_79 : decode cX13_readPlan 79 = .ok (.iconst 0, 1) := by decide +kernel
theorem dX13_readPlan_80 : decode cX13_readPlan 80 = .ok (.iastore, 1) := by decide +kernel
theorem dX13_readPlan_81 : decode cX13_readPlan 81 = .ok (.iload_n 3, 1) := by decide +kernel
theorem dX13_readPlan_82 : decode cX13_readPlan 82 = .ok (.istore 5, 2) := by decide +kernel
theorem dX13_readPlan_84 : decode cX13_readPlan 84 = .ok (.iload 5, 2) := by decide +kernel
theorem dX13_readPlan_86 : decode cX13_readPlan 86 = .ok (.ifCond .eq 24, 3) := by decide +kernel
theorem dX13_readPlan_89 : decode cX13_readPlan 89 = .ok (.aload_n 0, 1) := by decide +kernel
theorem dX13_readPlan_90 : decode cX13_readPlan 90 = .ok (.invokevirtual 189, 3) := by decide +kernel
theorem dX13_readPlan_93 : decode cX13_readPlan 93 = .ok (.aload_n 0, 1) := by decide +kernel
theorem dX13_readPlan_94 : decode cX13_readPlan 94 = .ok (.iload 4, 2) := by decide +kernel
theorem dX13_readPlan_96 : decode cX13_readPlan 96 = .ok (.invokevirtual 235, 3) := by decide +kernel
theorem dX13_readPlan_99 : decode cX13_readPlan 99 = .ok (.aload_n 0, 1) := by decide +kernel
theorem dX13_readPlan_100 : decode cX13_readPlan 100 = .ok (.ldc 239, 2) := by decide +kernel
theorem dX13_readPlan_102 : decode cX13_readPlan 102 = .ok (.invokevirtual 182, 3) := by decide +kernel
theorem dX13_readPlan_105 : decode cX13_readPlan 105 = .ok (.istore 5, 2) := by decide +kernel
theorem dX13_readPlan_107 : decode cX13_readPlan 107 = .ok (.goto (-23), 3) := by decide +kernel
theorem dX13_readPlan_110 : decode cX13_readPlan 110 = .ok (.aload_n 0, 1) := by decide +kernel
theorem dX13_readPlan_111 : decode cX13_readPlan 111 = .ok (.getfield 72, 3) := by decide +kernel
theorem dX13_readPlan_114 : decode cX13_readPlan 114 = .ok (.iload 4, 2) := by decide +kernel
theorem dX13_readPlan_116 : decode cX13_readPlan 116 = .ok (.aload_n 0, 1) := by decide +kernel
theorem dX13_readPlan_117 : decode cX13_readPlan 117 = .ok (.invokevirtual 232, 3) := by decide +kernel
theorem dX13_readPlan_120 : decode cX13_readPlan 120 = .ok (.iastore, 1) := by decide +kernel
theorem dX13_readPlan_121 : decode cX13_readPlan 121 = .ok (.aload_n 0, 1) := by decide +kernel
theorem dX13_readPlan_122 : decode cX13_readPlan 122 = .ok (.getfield 72, 3) := by decide +kernel
theorem dX13_readPlan_125 : decode cX13_readPlan 125 = .ok (.iload 4, 2) := by decide +kernel
theorem dX13_readPlan_127 : decode cX13_readPlan 127 = .ok (.iaload, 1) := by decide +kernel
theorem dX13_readPlan_128 : decode cX13_readPlan 128 = .ok (.iconst (-1), 1) := by decide +kernel
theorem dX13_readPlan_129 : decode cX13_readPlan 129 = .ok (.if_icmp .ne 9, 3) := by decide +kernel
theorem dX13_readPlan_132 : decode cX13_readPlan 132 = .ok (.aload_n 0, 1) := by decide +kernel
theorem dX13_readPlan_133 : decode cX13_readPlan 133 = .ok (.iconst 1, 1) := by decide +kernel
theorem dX13_readPlan_134 : decode cX13_readPlan 134 = .ok (.invokevirtual 186, 3) := by decide +kernel
theorem dX13_readPlan_137 : decode cX13_readPlan 137 = .ok (.athrow, 1) := by decide +kernel
theorem dX13_readPlan_138 : decode cX13_readPlan 138 = .ok (.aload_n 0, 1) := by decide +kernel
theorem dX13_readPlan_139 : decode cX13_readPlan 139 = .ok (.invokevirtual 189, 3) := by decide +kernel
theorem dX13_readPlan_142 : decode cX13_readPlan 142 = .ok (.aload_n 0, 1) := by decide +kernel
theorem dX13_readPlan_143 : decode cX13_readPlan 143 = .ok (.getfield 69, 3) := by decide +kernel
theorem dX13_readPlan_146 : decode cX13_readPlan 146 = .ok (.iload_n 1, 1) := by decide +kernel
theorem dX13_readPlan_147 : decode cX13_readPlan 147 = .ok (.dup2, 1) := by decide +kernel
theorem dX13_readPlan_148 : decode cX13_readPlan 148 = .ok (.iaload, 1) := by decide +kernel
theorem dX13_readPlan_149 : decode cX13_readPlan 149 = .ok (.iconst 1, 1) := by decide +kernel
theorem dX13_readPlan_150 : decode cX13_readPlan 150 = .ok (.iadd, 1) := by decide +kernel
theorem dX13_readPlan_151 : decode cX13_readPlan 151 = .ok (.iastore, 1) := by decide +kernel
theorem dX13_readPlan_152 : decode cX13_readPlan 152 = .ok (.aload_n 0, 1) := by decide +kernel
theorem dX13_readPlan_153 : decode cX13_readPlan 153 = .ok (.bipush 59, 2) := by decide +kernel
theorem dX13_readPlan_155 : decode cX13_readPlan 155 = .ok (.invokevirtual 241, 3) := by decide +kernel
theorem dX13_readPlan_158 : decode cX13_readPlan 158 = .ok (.istore_n 2, 1) := by decide +kernel
theorem dX13_readPlan_159 : decode cX13_readPlan 159 = .ok (.iload_n 2, 1) := by decide +kernel
theorem dX13_readPlan_160 : decode cX13_readPlan 160 = .ok (.ifCond .eq 7, 3) := by decide +kernel
theorem dX13_readPlan_163 : decode cX13_readPlan 163 = .ok (.aload_n 0, 1) := by decide +kernel
theorem dX13_readPlan_164 : decode cX13_readPlan 164 = .ok (.invokevirtual 189, 3) := by decide +kernel
theorem dX13_readPlan_167 : decode cX13_readPlan 167 = .ok (.goto (-153), 3) := by decide +kernel
theorem dX13_readPlan_170 : decode cX13_readPlan 170 = .ok (.aload_n 0, 1) := by decide +kernel
theorem dX13_readPlan_171 : decode cX13_readPlan 171 = .ok (.getfield 159, 3) := by decide +kernel
theorem dX13_readPlan_174 : decode cX13_readPlan 174 = .ok (.iconst 1, 1) := by decide +kernel
theorem dX13_readPlan_175 : decode cX13_readPlan 175 = .ok (.if_icmp .eq 9, 3) := by decide +kernel
theorem dX13_readPlan_178 : decode cX13_readPlan 178 = .ok (.aload_n 0, 1) := by decide +kernel
theorem dX13_readPlan_179 : decode cX13_readPlan 179 = .ok (.iconst 1, 1) := by decide +kernel
theorem dX13_readPlan_180 : decode cX13_readPlan 180 = .ok (.invokevirtual 186, 3) := by decide +kernel
theorem dX13_readPlan_183 : decode cX13_readPlan 183 = .ok (.athrow, 1) := by decide +kernel
theorem dX13_readPlan_184 : decode cX13_readPlan 184 = .ok (.return_, 1) := by decide +kernel
theorem dX13_readTest_0 : decode cX13_readTest 0 = .ok (.aload_n 0, 1) := by decide +kernel
theorem dX13_readTest_1 : decode cX13_readTest 1 = .ok (.getfield 159, 3) := by decide +kernel
theorem dX13_readTest_4 : decode cX13_readTest 4 = .ok (.iconst 2, 1) := by decide +kernel
theorem dX13_readTest_5 : decode cX13_readTest 5 = .ok (.if_icmp .ne 29, 3) := by decide +kernel
theorem dX13_readTest_8 : decode cX13_readTest 8 = .ok (.aload_n 0, 1) := by decide +kernel
theorem dX13_readTest_9 : decode cX13_readTest 9 = .ok (.ldc 230, 2) := by decide +kernel
theorem dX13_readTest_11 : decode cX13_readTest 11 = .ok (.invokevirtual 182, 3) := by decide +kernel
theorem dX13_readTest_14 : decode cX13_readTest 14 = .ok (.ifCond .ne 20, 3) := by decide +kernel
theorem dX13_readTest_17 : decode cX13_readTest 17 = .ok (.aload_n 0, 1) := by decide +kernel
theorem dX13_readTest_18 : decode cX13_readTest 18 = .ok (.ldc 239, 2) := by decide +kernel
theorem dX13_readTest_20 : decode cX13_readTest 20 = .ok (.invokevirtual 182, 3) := by decide +kernel
theorem dX13_readTest_23 : decode cX13_readTest 23 = .ok (.ifCond .ne 11, 3) := by decide +kernel
theorem dX13_readTest_26 : decode cX13_readTest 26 = .ok (.aload_n 0, 1) := by decide +kernel
theorem dX13_readTest_27 : decode cX13_readTest 27 = .ok (.invokevirtual 232, 3) := by decide +kernel
theorem dX13_readTest_30 : decode cX13_readTest 30 = .ok (.iconst (-1), 1) := by decide +kernel
theorem dX13_readTest_31 : decode cX13_readTest 31 = .ok (.if_icmp .eq 9, 3) := by decide +kernel
theorem dX13_readTest_34 : decode cX13_readTest 34 = .ok (.aload_n 0, 1) := by decide +kernel
theorem dX13_readTest_35 : decode cX13_readTest 35 = .ok (.iconst 1, 1) := by decide +kernel
theorem dX13_readTest_36 : decode cX13_readTest 36 = .ok (.invokevirtual 186, 3) := by decide +kernel
theorem dX13_readTest_39 : decode cX13_readTest 39 = .ok (.athrow, 1) := by decide +kernel
theorem dX13_readTest_40 : decode cX13_readTest 40 = .ok (.aload_n 0, 1) := by decide +kernel
theorem dX13_readTest_41 : decode cX13_readTest 41 = .ok (.invokevirtual 244, 3) := by decide +kernel
theorem dX13_readTest_44 : decode cX13_readTest 44 = .ok (.istore_n 2, 1) := by decide +kernel
theorem dX13_readTest_45 : decode cX13_readTest 45 = .ok (.iload_n 2, 1) := by decide +kernel
theorem dX13_readTest_46 : decode cX13_readTest 46 = .ok (.iconst (-1), 1) := by decide +kernel
theorem dX13_readTest_47 : decode cX13_readTest 47 = .ok (.if_icmp .ne 9, 3) := by decide +kernel
theorem dX13_readTest_50 : decode cX13_readTest 50 = .ok (.aload_n 0, 1) := by decide +kernel
theorem dX13_readTest_51 : decode cX13_readTest 51 = .ok (.iconst 2, 1) := by decide +kernel
theorem dX13_readTest_52 : decode cX13_readTest 52 = .ok (.invokevirtual 186, 3) := by decide +kernel
theorem dX13_readTest_55 : decode cX13_readTest 55 = .ok (.athrow, 1) := by decide +kernel
theorem dX13_readTest_56 : decode cX13_readTest 56 = .ok (.aload_n 0, 1) := by decide +kernel
theorem dX13_readTest_57 : decode cX13_readTest 57 = .ok (.getfield 75, 3) := by decide +kernel
theorem dX13_readTest_60 : decode cX13_readTest 60 = .ok (.iload_n 1, 1) := by decide +kernel
theorem dX13_readTest_61 : decode cX13_readTest 61 = .ok (.iaload, 1) := by decide +kernel
theorem dX13_readTest_62 : decode cX13_readTest 62 = .ok (.iconst 4, 1) := by decide +kernel
theorem dX13_readTest_63 : decode cX13_readTest 63 = .ok (.if_icmp .ne 9, 3) := by decide +kernel
theorem dX13_readTest_66 : decode cX13_readTest 66 = .ok (.aload_n 0, 1) := by decide +kernel
theorem dX13_readTest_67 : decode cX13_readTest 67 = .ok (.iconst 3, 1) := by decide +kernel
theorem dX13_readTest_68 : decode cX13_readTest 68 = .ok (.invokevirtual 186, 3) := by decide +kernel
theorem dX13_readTest_71 : decode cX13_readTest 71 = .ok (.athrow, 1) := by decide +kernel
theorem dX13_readTest_72 : decode cX13_readTest 72 = .ok (.iconst 4, 1) := by decide +kernel
theorem dX13_readTest_73 : decode cX13_readTest 73 = .ok (.iload_n 1, 1) := by decide +kernel
theorem dX13_readTest_74 : decode cX13_readTest 74 = .ok (.imul, 1) := by decide +kernel
theorem dX13_readTest_75 : decode cX13_readTest 75 = .ok (.aload_n 0, 1) := by decide +kernel
theorem dX13_readTest_76 : decode cX13_readTest 76 = .ok (.getfield 75, 3) := by decide +kernel
theorem dX13_readTest_79 : decode cX13_readTest 79 = .ok (.iload_n 1, 1) := by decide +kernel
theorem dX13_readTest_80 : decode cX13_readTest 80 = .ok (.iaload, 1) := by decide +kernel
theorem dX13_readTest_81 : decode cX13_readTest 81 = .ok (.iadd, 1) := by decide +kernel
theorem dX13_readTest_82 : decode cX13_readTest 82 = .ok (.istore_n 3, 1) := by decide +kernel
theorem dX13_readTest_83 : decode cX13_readTest 83 = .ok (.aload_n 0, 1) := by decide +kernel
theorem dX13_readTest_84 : decode cX13_readTest 84 = .ok (.getfield 78, 3) := by decide +kernel
theorem dX13_readTest_87 : decode cX13_readTest 87 = .ok (.iload_n 3, 1) := by decide +kernel
theorem dX13_readTest_88 : decode cX13_readTest 88 = .ok (.iload_n 2, 1) := by decide +kernel
theorem dX13_readTest_89 : decode cX13_readTest 89 = .ok (.iastore, 1) := by decide +kernel
theorem dX13_readTest_90 : decode cX13_readTest 90 = .ok (.aload_n 0, 1) := by decide +kernel
theorem dX13_readTest_91 : decode cX13_readTest 91 = .ok (.invokevirtual 189, 3) := by decide +kernel
theorem dX13_readTest_94 : decode cX13_readTest 94 = .ok (.aload_n 0, 1) := by decide +kernel
theorem dX13_readTest_95 : decode cX13_readTest 95 = .ok (.bipush 60, 2) := by decide +kernel
theorem dX13_readTest_97 : decode cX13_readTest 97 = .ok (.invokevirtual 241, 3) := by decide +kernel
theorem dX13_readTest_100 : decode cX13_readTest 100 = .ok (.ifCond .ne 18, 3) := by decide +kernel
theorem dX13_readTest_103 : decode cX13_readTest 103 = .ok (.aload_n 0, 1) := by decide +kernel
theorem dX13_readTest_104 : decode cX13_readTest 104 = .ok (.bipush 62, 2) := by decide +kernel
theorem dX13_readTest_106 : decode cX13_readTest 106 = .ok (.invokevirtual 241, 3) := by decide +kernel
theorem dX13_readTest_109 : decode cX13_readTest 109 = .ok (.ifCond .ne 9, 3) := by decide +kernel
theorem dX13_readTest_112 : decode cX13_readTest 112 = .ok (.aload_n 0, 1) := by decide +kernel
theorem dX13_readTest_113 : decode cX13_readTest 113 = .ok (.iconst 1, 1) := by decide +kernel
theorem dX13_readTest_114 : decode cX13_readTest 114 = .ok (.invokevirtual 186, 3) := by decide +kernel
theorem dX13_readTest_117 : decode cX13_readTest 117 = .ok (.athrow, 1) := by decide +kernel
theorem dX13_readTest_118 : decode cX13_readTest 118 = .ok (.aload_n 0, 1) := by decide +kernel
theorem dX13_readTest_119 : decode cX13_readTest 119 = .ok (.getfield 84, 3) := by decide +kernel
theorem dX13_readTest_122 : decode cX13_readTest 122 = .ok (.iload_n 3, 1) := by decide +kernel
theorem dX13_readTest_123 : decode cX13_readTest 123 = .ok (.aload_n 0, 1) := by decide +kernel
theorem dX13_readTest_124 : decode cX13_readTest 124 = .ok (.bipush 60, 2) := by decide +kernel
theorem dX13_readTest_126 : decode cX13_readTest 126 = .ok (.invokevirtual 241, 3) := by decide +kernel
theorem dX13_readTest_129 : decode cX13_readTest 129 = .ok (.bastore, 1) := by decide +kernel
theorem dX13_readTest_130 : decode cX13_readTest 130 = .ok (.aload_n 0, 1) := by decide +kernel
theorem dX13_readTest_131 : decode cX13_readTest 131 = .ok (.invokevirtual 189, 3) := by decide +kernel
theorem dX13_readTest_134 : decode cX13_readTest 134 = .ok (.aload_n 0, 1) := by decide +kernel
theorem dX13_readTest_135 : decode cX13_readTest 135 = .ok (.getfield 81, 3) := by decide +kernel
theorem dX13_readTest_138 : decode cX13_readTest 138 = .ok (.iload_n 3, 1) := by decide +kernel
theorem dX13_readTest_139 : decode cX13_readTest 139 = .ok (.aload_n 0, 1) := by decide +kernel
theorem dX13_readTest_140 : decode cX13_readTest 140 = .ok (.invokevirtual 247, 3) := by decide +kernel
theorem dX13_readTest_143 : decode cX13_readTest 143 = .ok (.iastore, 1) := by decide +kernel
theorem dX13_readTest_144 : decode cX13_readTest 144 = .ok (.aload_n 0, 1) := by decide +kernel
theorem dX13_readTest_145 : decode cX13_readTest 145 = .ok (.getfield 75, 3) := by decide +kernel
theorem dX13_readTest_148 : decode cX13_readTest 148 = .ok (.iload_n 1, 1) := by decide +kernel
theorem dX13_readTest_149 : decode cX13_readTest 149 = .ok (.dup2, 1) := by decide +kernel
theorem dX13_readTest_150 : decode cX13_readTest 150 = .ok (.iaload, 1) := by decide +kernel
theorem dX13_readTest_151 : decode cX13_readTest 151 = .ok (.iconst 1, 1) := by decide +kernel
theorem dX13_readTest_152 : decode cX13_readTest 152 = .ok (.iadd, 1) := by decide +kernel
theorem dX13_readTest_153 : decode cX13_readTest 153 = .ok (.iastore, 1) := by decide +kernel
theorem dX13_readTest_154 : decode cX13_readTest 154 = .ok (.return_, 1) := by decide +kernel
theorem dX13_readLaws_0 : decode cX13_readLaws 0 = .ok (.aload_n 0, 1) := by decide +kernel
theorem dX13_readLaws_1 : decode cX13_readLaws 1 = .ok (.getfield 250, 3) := by decide +kernel
theorem dX13_readLaws_4 : decode cX13_readLaws 4 = .ok (.istore_n 1, 1) := by decide +kernel
theorem dX13_readLaws_5 : decode cX13_readLaws 5 = .ok (.iconst 1, 1) := by decide +kernel
theorem dX13_readLaws_6 : decode cX13_readLaws 6 = .ok (.istore_n 2, 1) := by decide +kernel
theorem dX13_readLaws_7 : decode cX13_readLaws 7 = .ok (.iload_n 2, 1) := by decide +kernel
theorem dX13_readLaws_8 : decode cX13_readLaws 8 = .ok (.ifCond .eq 252, 3) := by decide +kernel
theorem dX13_readLaws_11 : decode cX13_readLaws 11 = .ok (.aload_n 0, 1) := by decide +kernel
theorem dX13_readLaws_12 : decode cX13_readLaws 12 = .ok (.ldc 202, 2) := by decide +kernel
theorem dX13_readLaws_14 : decode cX13_readLaws 14 = .ok (.invokevirtual 182, 3) := by decide +kernel
theorem dX13_readLaws_17 : decode cX13_readLaws 17 = .ok (.ifCond .ne 27, 3) := by decide +kernel
theorem dX13_readLaws_20 : decode cX13_readLaws 20 = .ok (.aload_n 0, 1) := by decide +kernel
theorem dX13_readLaws_21 : decode cX13_readLaws 21 = .ok (.ldc 211, 2) := by decide +kernel
theorem dX13_readLaws_23 : decode cX13_readLaws 23 = .ok (.invokevirtual 182, 3) := by decide +kernel
theorem dX13_readLaws_26 : decode cX13_readLaws 26 = .ok (.ifCond .ne 18, 3) := by decide +kernel
theorem dX13_readLaws_29 : decode cX13_readLaws 29 = .ok (.aload_n 0, 1) := by decide +kernel
theorem dX13_readLaws_30 : decode cX13_readLaws 30 = .ok (.ldc 253, 2) := by decide +kernel
theorem dX13_readLaws_32 : decode cX13_readLaws 32 = .ok (.invokevirtual 182, 3) := by decide +kernel
theorem dX13_readLaws_35 : decode cX13_readLaws 35 = .ok (.ifCond .ne 9, 3) := by decide +kernel
theorem dX13_readLaws_38 : decode cX13_readLaws 38 = .ok (.aload_n 0, 1) := by decide +kernel
theorem dX13_readLaws_39 : decode cX13_readLaws 39 = .ok (.iconst 1, 1) := by decide +kernel
theorem dX13_readLaws_40 : decode cX13_readLaws 40 = .ok (.invokevirtual 186, 3) := by decide +kernel
theorem dX13_readLaws_43 : decode cX13_readLaws 43 = .ok (.athrow, 1) := by decide +kernel
theorem dX13_readLaws_44 : decode cX13_readLaws 44 = .ok (.iload_n 1, 1) := by decide +kernel
theorem dX13_readLaws_45 : decode cX13_readLaws 45 = .ok (.bipush 10, 2) := by decide +kernel
theorem dX13_readLaws_47 : decode cX13_readLaws 47 = .ok (.if_icmp .ne 9, 3) := by decide +kernel
theorem dX13_readLaws_50 : decode cX13_readLaws 50 = .ok (.aload_n 0, 1) := by decide +kernel
theorem dX13_readLaws_51 : decode cX13_readLaws 51 = .ok (.iconst 3, 1) := by decide +kernel
theorem dX13_readLaws_52 : decode cX13_readLaws 52 = .ok (.invokevirtual 186, 3) := by decide +kernel
theorem dX13_readLaws_55 : decode cX13_readLaws 55 = .ok (.athrow, 1) := by decide +kernel
theorem dX13_readLaws_56 : decode cX13_readLaws 56 = .ok (.aload_n 0, 1) := by decide +kernel
theorem dX13_readLaws_57 : decode cX13_readLaws 57 = .ok (.ldc 211, 2) := by decide +kernel
theorem dX13_readLaws_59 : decode cX13_readLaws 59 = .ok (.invokevirtual 182, 3) := by decide +kernel
theorem dX13_readLaws_62 : decode cX13_readLaws 62 = .ok (.ifCond .eq 7, 3) := by decide +kernel
theorem dX13_readLaws_65 : decode cX13_readLaws 65 = .ok (.iconst 2, 1) := by decide +kernel
theorem dX13_readLaws_66 : decode cX13_readLaws 66 = .ok (.goto 17, 3) := by decide +kernel
theorem dX13_readLaws_69 : decode cX13_readLaws 69 = .ok (.aload_n 0, 1) := by decide +kernel
theorem dX13_readLaws_70 : decode cX13_readLaws 70 = .ok (.ldc 253, 2) := by decide +kernel
theorem dX13_readLaws_72 : decode cX13_readLaws 72 = .ok (.invokevirtual 182, 3) := by decide +kernel
theorem dX13_readLaws_75 : decode cX13_readLaws 75 = .ok (.ifCond .eq 7, 3) := by decide +kernel
theorem dX13_readLaws_78 : decode cX13_readLaws 78 = .ok (.iconst 3, 1) := by decide +kernel
theorem dX13_readLaws_79 : decode cX13_readLaws 79 = .ok (.goto 4, 3) := by decide +kernel
theorem dX13_readLaws_82 : decode cX13_readLaws 82 = .ok (.iconst 0, 1) := by decide +kernel
theorem dX13_readLaws_83 : decode cX13_readLaws 83 = .ok (.istore_n 3, 1) := by decide +kernel
theorem dX13_readLaws_84 : decode cX13_readLaws 84 = .ok (.aload_n 0, 1) := by decide +kernel
theorem dX13_readLaws_85 : decode cX13_readLaws 85 = .ok (.invokevirtual 189, 3) := by decide +kernel
theorem dX13_readLaws_88 : decode cX13_readLaws 88 = .ok (.aload_n 0, 1) := by decide +kernel
theorem dX13_readLaws_89 : decode cX13_readLaws 89 = .ok (.invokevirtual 247, 3) := by decide +kernel
theorem dX13_readLaws_92 : decode cX13_readLaws 92 = .ok (.istore 4, 2) := by decide +kernel
theorem dX13_readLaws_94 : decode cX13_readLaws 94 = .ok (.iconst 0, 1) := by decide +kernel
theorem dX13_readLaws_95 : decode cX13_readLaws 95 = .ok (.istore 5, 2) := by decide +kernel
theorem dX13_readLaws_97 : decode cX13_readLaws 97 = .ok (.iconst 0, 1) := by decide +kernel
theorem dX13_readLaws_98 : decode cX13_readLaws 98 = .ok (.istore 6, 2) := by decide +kernel
theorem dX13_readLaws_100 : decode cX13_readLaws 100 = .ok (.iload_n 3, 1) := by decide +kernel
theorem dX13_readLaws_101 : decode cX13_readLaws 101 = .ok (.iconst 3, 1) := by decide +kernel
theorem dX13_readLaws_102 : decode cX13_readLaws 102 = .ok (.if_icmp .ne 18, 3) := by decide +kernel
theorem dX13_readLaws_105 : decode cX13_readLaws 105 = .ok (.aload_n 0, 1) := by decide +kernel
theorem dX13_readLaws_106 : decode cX13_readLaws 106 = .ok (.ldc 255, 2) := by decide +kernel
theorem dX13_readLaws_108 : decode cX13_readLaws 108 = .ok (.invokevirtual 257, 3) := by decide +kernel
theorem dX13_readLaws_111 : decode cX13_readLaws 111 = .ok (.aload_n 0, 1) := by decide +kernel
theorem dX13_readLaws_112 : decode cX13_readLaws 112 = .ok (.invokevirtual 247, 3) := by decide +kernel
theorem dX13_readLaws_115 : decode cX13_readLaws 115 = .ok (.istore 5, 2) := by decide +kernel
theorem dX13_readLaws_117 : decode cX13_readLaws 117 = .ok (.goto 77, 3) := by decide +kernel
theorem dX13_readLaws_120 : decode cX13_readLaws 120 = .ok (.iload_n 3, 1) := by decide +kernel
theorem dX13_readLaws_121 : decode cX13_readLaws 121 = .ok (.ifCond .ne 73, 3) := by decide +kernel
theorem dX13_readLaws_124 : decode cX13_readLaws 124 = .ok (.aload_n 0, 1) := by decide +kernel
theorem dX13_readLaws_125 : decode cX13_readLaws 125 = .ok (.ldc_w 261, 3) := by decide +kernel
theorem dX13_readLaws_128 : decode cX13_readLaws 128 = .ok (.invokevirtual 182, 3) := by decide +kernel
theorem dX13_readLaws_131 : decode cX13_readLaws 131 = .ok (.ifCond .ne 19, 3) := by decide +kernel
theorem dX13_readLaws_134 : decode cX13_readLaws 134 = .ok (.aload_n 0, 1) := by decide +kernel
theorem dX13_readLaws_135 : decode cX13_readLaws 135 = .ok (.ldc_w 262, 3) := by decide +kernel
theorem dX13_readLaws_138 : decode cX13_readLaws 138 = .ok (.invokevirtual 182, 3) := by decide +kernel
theorem dX13_readLaws_141 : decode cX13_readLaws 141 = .ok (.ifCond .ne 9, 3) := by decide +kernel
theorem dX13_readLaws_144 : decode cX13_readLaws 144 = .ok (.aload_n 0, 1) := by decide +kernel
theorem dX13_readLaws_145 : decode cX13_readLaws 145 = .ok (.iconst 1, 1) := by decide +kernel
theorem dX13_readLaws_146 : decode cX13_readLaws 146 = .ok (.invokevirtual 186, 3) := by decide +kernel
theorem dX13_readLaws_149 : decode cX13_readLaws 149 = .ok (.athrow, 1) := by decide +kernel
theorem dX13_readLaws_150 : decode cX13_readLaws 150 = .ok (.aload_n 0, 1) := by decide +kernel
theorem dX13_readLaws_151 : decode cX13_readLaws 151 = .ok (.ldc_w 261, 3) := by decide +kernel
theorem dX13_readLaws_154 : decode cX13_readLaws 154 = .ok (.invokevirtual 182, 3) := by decide +kernel
theorem dX13_readLaws_157 : decode cX13_readLaws 157 = .ok (.ifCond .eq 7, 3) := by decide +kernel
theorem dX13_readLaws_160 : decode cX13_readLaws 160 = .ok (.iconst 0, 1) := by decide +kernel
theorem dX13_readLaws_161 : decode cX13_readLaws 161 = .ok (.goto 4, 3) := by decide +kernel
theorem dX13_readLaws_164 : decode cX13_readLaws 164 = .ok (.iconst 1, 1) := by decide +kernel
theorem dX13_readLaws_165 : decode cX13_readLaws 165 = .ok (.istore_n 3, 1) := by decide +kernel
theorem dX13_readLaws_166 : decode cX13_readLaws 166 = .ok (.aload_n 0, 1) := by decide +kernel
theorem dX13_readLaws_167 : decode cX13_readLaws 167 = .ok (.invokevirtual 189, 3) := by decide +kernel
theorem dX13_readLaws_170 : decode cX13_readLaws 170 = .ok (.aload_n 0, 1) := by decide +kernel
theorem dX13_readLaws_171 : decode cX13_readLaws 171 = .ok (.invokevirtual 247, 3) := by decide +kernel
theorem dX13_readLaws_174 : decode cX13_readLaws 174 = .ok (.istore 5, 2) := by decide +kernel
theorem dX13_readLaws_176 : decode cX13_readLaws 176 = .ok (.iload_n 3, 1) := by decide +kernel
theorem dX13_readLaws_177 : decode cX13_readLaws 177 = .ok (.iconst 1, 1) := by decide +kernel
theorem dX13_readLaws_178 : decode cX13_readLaws 178 = .ok (.if_icmp .ne 16, 3) := by decide +kernel
theorem dX13_readLaws_181 : decode cX13_readLaws 181 = .ok (.aload_n 0, 1) := by decide +kernel
theorem dX13_readLaws_182 : decode cX13_readLaws 182 = .ok (.ldc_w 264, 3) := by decide +kernel
theorem dX13_readLaws_185 : decode cX13_readLaws 185 = .ok (.invokevirtual 257, 3) := by decide +kernel
theorem dX13_readLaws_188 : decode cX13_readLaws 188 = .ok (.aload_n 0, 1) := by decide +kernel
theorem dX13_readLaws_189 : decode cX13_readLaws 189 = .ok (.invokevirtual 247, 3) := by decide +kernel
theorem dX13_readLaws_192 : decode cX13_readLaws 192 = .ok (.istore 6, 2) := by decide +kernel
theorem dX13_readLaws_194 : decode cX13_readLaws 194 = .ok (.aload_n 0, 1) := by decide +kernel
theorem dX13_readLaws_195 : decode cX13_readLaws 195 = .ok (.getfield 88, 3) := by decide +kernel
theorem dX13_readLaws_198 : decode cX13_readLaws 198 = .ok (.iconst 4, 1) := by decide +kernel
theorem dX13_readLaws_199 : decode cX13_readLaws 199 = .ok (.iload_n 1, 1) := by decide +kernel
theorem dX13_readLaws_200 : decode cX13_readLaws 200 = .ok (.imul, 1) := by decide +kernel
theorem dX13_readLaws_201 : decode cX13_readLaws 201 = .ok (.iload_n 3, 1) := by decide +kernel
theorem dX13_readLaws_202 : decode cX13_readLaws 202 = .ok (.iastore, 1) := by decide +kernel
theorem dX13_readLaws_203 : decode cX13_readLaws 203 = .ok (.aload_n 0, 1) := by decide +kernel
theorem dX13_readLaws_204 : decode cX13_readLaws 204 = .ok (.getfield 88, 3) := by decide +kernel
theorem dX13_readLaws_207 : decode cX13_readLaws 207 = .ok (.iconst 4, 1) := by decide +kernel
theorem dX13_readLaws_208 : decode cX13_readLaws 208 = .ok (.iload_n 1, 1) := by decide +kernel
theorem dX13_readLaws_209 : decode cX13_readLaws 209 = .ok (.imul, 1) := by decide +kernel
theorem dX13_readLaws_210 : decode cX13_readLaws 210 = .ok (.iconst 1, 1) := by decide +kernel
theorem dX13_readLaws_211 : decode cX13_readLaws 211 = .ok (.iadd, 1) := by decide +kernel
theorem dX13_readLaws_212 : decode cX13_readLaws 212 = .ok (.iload 4, 2) := by decide +kernel
theorem dX13_readLaws_214 : decode cX13_readLaws 214 = .ok (.iastore, 1) := by decide +kernel
theorem dX13_readLaws_215 : decode cX13_readLaws 215 = .ok (.aload_n 0, 1) := by decide +kernel
theorem dX13_readLaws_216 : decode cX13_readLaws 216 = .ok (.getfield 88, 3) := by decide +kernel
theorem dX13_readLaws_219 : decode cX13_readLaws 219 = .ok (.iconst 4, 1) := by decide +kernel
theorem dX13_readLaws_220 : decode cX13_readLaws 220 = .ok (.iload_n 1, 1) := by decide +kernel
theorem dX13_readLaws_221 : decode cX13_readLaws 221 = .ok (.imul, 1) := by decide +kernel
theorem dX13_readLaws_222 : decode cX13_readLaws 222 = .ok (.iconst 2, 1) := by decide +kernel
theorem dX13_readLaws_223 : decode cX13_readLaws 223 = .ok (.iadd, 1) := by decide +kernel
theorem dX13_readLaws_224 : decode cX13_readLaws 224 = .ok (.iload 5, 2) := by decide +kernel
theorem dX13_readLaws_226 : decode cX13_readLaws 226 = .ok (.iastore, 1) := by decide +kernel
theorem dX13_readLaws_227 : decode cX13_readLaws 227 = .ok (.aload_n 0, 1) := by decide +kernel
theorem dX13_readLaws_228 : decode cX13_readLaws 228 = .ok (.getfield 88, 3) := by decide +kernel
theorem dX13_readLaws_231 : decode cX13_readLaws 231 = .ok (.iconst 4, 1) := by decide +kernel
theorem dX13_readLaws_232 : decode cX13_readLaws 232 = .ok (.iload_n 1, 1) := by decide +kernel
theorem dX13_readLaws_233 : decode cX13_readLaws 233 = .ok (.imul, 1) := by decide +kernel
theorem dX13_readLaws_234 : decode cX13_readLaws 234 = .ok (.iconst 3, 1) := by decide +kernel
theorem dX13_readLaws_235 : decode cX13_readLaws 235 = .ok (.iadd, 1) := by decide +kernel
theorem dX13_readLaws_236 : decode cX13_readLaws 236 = .ok (.iload 6, 2) := by decide +kernel
theorem dX13_readLaws_238 : decode cX13_readLaws 238 = .ok (.iastore, 1) := by decide +kernel
theorem dX13_readLaws_239 : decode cX13_readLaws 239 = .ok (.iinc 1 1, 3) := by decide +kernel
theorem dX13_readLaws_242 : decode cX13_readLaws 242 = .ok (.aload_n 0, 1) := by decide +kernel
theorem dX13_readLaws_243 : decode cX13_readLaws 243 = .ok (.bipush 59, 2) := by decide +kernel
theorem dX13_readLaws_245 : decode cX13_readLaws 245 = .ok (.invokevirtual 241, 3) := by decide +kernel
theorem dX13_readLaws_248 : decode cX13_readLaws 248 = .ok (.istore_n 2, 1) := by decide +kernel
theorem dX13_readLaws_249 : decode cX13_readLaws 249 = .ok (.iload_n 2, 1) := by decide +kernel
theorem dX13_readLaws_250 : decode cX13_readLaws 250 = .ok (.ifCond .eq 7, 3) := by decide +kernel
theorem dX13_readLaws_253 : decode cX13_readLaws 253 = .ok (.aload_n 0, 1) := by decide +kernel
theorem dX13_readLaws_254 : decode cX13_readLaws 254 = .ok (.invokevirtual 189, 3) := by decide +kernel
theorem dX13_readLaws_257 : decode cX13_readLaws 257 = .ok (.goto (-250), 3) := by decide +kernel
theorem dX13_readLaws_260 : decode cX13_readLaws 260 = .ok (.aload_n 0, 1) := by decide +kernel
theorem dX13_readLaws_261 : decode cX13_readLaws 261 = .ok (.getfield 159, 3) := by decide +kernel
theorem dX13_readLaws_264 : decode cX13_readLaws 264 = .ok (.iconst 1, 1) := by decide +kernel
theorem dX13_readLaws_265 : decode cX13_readLaws 265 = .ok (.if_icmp .eq 9, 3) := by decide +kernel
theorem dX13_readLaws_268 : decode cX13_readLaws 268 = .ok (.aload_n 0, 1) := by decide +kernel
theorem dX13_readLaws_269 : decode cX13_readLaws 269 = .ok (.iconst 1, 1) := by decide +kernel
theorem dX13_readLaws_270 : decode cX13_readLaws 270 = .ok (.invokevirtual 186, 3) := by decide +kernel
theorem dX13_readLaws_273 : decode cX13_readLaws 273 = .ok (.athrow, 1) := by decide +kernel
theorem dX13_readLaws_274 : decode cX13_readLaws 274 = .ok (.iload_n 1, 1) := by decide +kernel
theorem dX13_readLaws_275 : decode cX13_readLaws 275 = .ok (.ireturn, 1) := by decide +kernel
theorem dX13_feed_0 : decode cX13_feed 0 = .ok (.aload_n 0, 1) := by decide +kernel
theorem dX13_feed_1 : decode cX13_feed 1 = .ok (.iconst 0, 1) := by decide +kernel
theorem dX13_feed_2 : decode cX13_feed 2 = .ok (.putfield 1, 3) := by decide +kernel
theorem dX13_feed_5 : decode cX13_feed 5 = .ok (.aload_n 0, 1) := by decide +kernel
theorem dX13_feed_6 : decode cX13_feed 6 = .ok (.getfield 221, 3) := by decide +kernel
theorem dX13_feed_9 : decode cX13_feed 9 = .ok (.bipush 20, 2) := by decide +kernel
theorem dX13_feed_11 : decode cX13_feed 11 = .ok (.iadd, 1) := by decide +kernel
theorem dX13_feed_12 : decode cX13_feed 12 = .ok (.sipush 400, 3) := by decide +kernel
theorem dX13_feed_15 : decode cX13_feed 15 = .ok (.if_icmp .le 5, 3) := by decide +kernel
theorem dX13_feed_18 : decode cX13_feed 18 = .ok (.iconst (-1), 1) := by decide +kernel
theorem dX13_feed_19 : decode cX13_feed 19 = .ok (.ireturn, 1) := by decide +kernel
theorem dX13_feed_20 : decode cX13_feed 20 = .ok (.iconst 0, 1) := by decide +kernel
theorem dX13_feed_21 : decode cX13_feed 21 = .ok (.istore 6, 2) := by decide +kernel
theorem dX13_feed_23 : decode cX13_feed 23 = .ok (.iload 6, 2) := by decide +kernel
theorem dX13_feed_25 : decode cX13_feed 25 = .ok (.bipush 20, 2) := by decide +kernel
theorem dX13_feed_27 : decode cX13_feed 27 = .ok (.if_icmp .ge 90, 3) := by decide +kernel
theorem dX13_feed_30 : decode cX13_feed 30 = .ok (.iload 6, 2) := by decide +kernel
theorem dX13_feed_32 : decode cX13_feed 32 = .ok (.iconst 4, 1) := by decide +kernel
theorem dX13_feed_33 : decode cX13_feed 33 = .ok (.if_icmp .ge 7, 3) := by decide +kernel
theorem dX13_feed_36 : decode cX13_feed 36 = .ok (.iload_n 1, 1) := by decide +kernel
theorem dX13_feed_37 : decode cX13_feed 37 = .ok (.goto 39, 3) := by decide +kernel
theorem dX13_feed_40 : decode cX13_feed 40 = .ok (.iload 6, 2) := by decide +kernel
theorem dX13_feed_42 : decode cX13_feed 42 = .ok (.bipush 8, 2) := by decide +kernel
theorem dX13_feed_44 : decode cX13_feed 44 = .ok (.if_icmp .ge 7, 3) := by decide +kernel
theorem dX13_feed_47 : decode cX13_feed 47 = .ok (.iload_n 2, 1) := by decide +kernel
theorem dX13_feed_48 : decode cX13_feed 48 = .ok (.goto 28, 3) := by decide +kernel
theorem dX13_feed_51 : decode cX13_feed 51 = .ok (.iload 6, 2) := by decide +kernel
theorem dX13_feed_53 : decode cX13_feed 53 = .ok (.bipush 12, 2) := by decide +kernel
theorem dX13_feed_55 : decode cX13_feed 55 = .ok (.if_icmp .ge 7, 3) := by decide +kernel
theorem dX13_feed_58 : decode cX13_feed 58 = .ok (.iload_n 3, 1) := by decide +kernel
theorem dX13_feed_59 : decode cX13_feed 59 = .ok (.goto 17, 3) := by decide +kernel
theorem dX13_feed_62 : decode cX13_feed 62 = .ok (.iload 6, 2) := by decide +kernel
theorem dX13_feed_64 : decode cX13_feed 64 = .ok (.bipush 16, 2) := by decide +kernel
theorem dX13_feed_66 : decode cX13_feed 66 = .ok (.if_icmp .ge 8, 3) := by decide +kernel
theorem dX13_feed_69 : decode cX13_feed 69 = .ok (.iload 4, 2) := by decide +kernel
theorem dX13_feed_71 : decode cX13_feed 71 = .ok (.goto 5, 3) := by decide +kernel
theorem dX13_feed_74 : decode cX13_feed 74 = .ok (.iload 5, 2) := by decide +kernel
theorem dX13_feed_76 : decode cX13_feed 76 = .ok (.istore 7, 2) := by decide +kernel
theorem dX13_feed_78 : decode cX13_feed 78 = .ok (.aload_n 0, 1) := by decide +kernel
theorem dX13_feed_79 : decode cX13_feed 79 = .ok (.getfield 65, 3) := by decide +kernel
theorem dX13_feed_82 : decode cX13_feed 82 = .ok (.aload_n 0, 1) := by decide +kernel
theorem dX13_feed_83 : decode cX13_feed 83 = .ok (.getfield 221, 3) := by decide +kernel
theorem dX13_feed_86 : decode cX13_feed 86 = .ok (.iload 7, 2) := by decide +kernel
theorem dX13_feed_88 : decode cX13_feed 88 = .ok (.bipush 24, 2) := by decide +kernel
theorem dX13_feed_90 : decode cX13_feed 90 = .ok (.bipush 8, 2) := by decide +kernel
theorem dX13_feed_92 : decode cX13_feed 92 = .ok (.iload 6, 2) := by decide +kernel
theorem dX13_feed_94 : decode cX13_feed 94 = .ok (.iconst 4, 1) := by decide +kernel
theorem dX13_feed_95 : decode cX13_feed 95 = .ok (.irem, 1) := by decide +kernel
theorem dX13_feed_96 : decode cX13_feed 96 = .ok (.imul, 1) := by decide +kernel
theorem dX13_feed_97 : decode cX13_feed 97 = .ok (.isub, 1) := by decide +kernel
theorem dX13_feed_98 : decode cX13_feed 98 = .ok (.ishr, 1) := by decide +kernel
theorem dX13_feed_99 : decode cX13_feed 99 = .ok (.i2b, 1) := by decide +kernel
theorem dX13_feed_100 : decode cX13_feed 100 = .ok (.bastore, 1) := by decide +kernel
theorem dX13_feed_101 : decode cX13_feed 101 = .ok (.aload_n 0, 1) := by decide +kernel
theorem dX13_feed_102 : decode cX13_feed 102 = .ok (.dup, 1) := by decide +kernel
theorem dX13_feed_103 : decode cX13_feed 103 = .ok (.getfield 221, 3) := by decide +kernel
theorem dX13_feed_106 : decode cX13_feed 106 = .ok (.iconst 1, 1) := by decide +kernel
theorem dX13_feed_107 : decode cX13_feed 107 = .ok (.iadd, 1) := by decide +kernel
theorem dX13_feed_108 : decode cX13_feed 108 = .ok (.putfield 221, 3) := by decide +kernel
theorem dX13_feed_111 : decode cX13_feed 111 = .ok (.iinc 6 1, 3) := by decide +kernel
theorem dX13_feed_114 : decode cX13_feed 114 = .ok (.goto (-91), 3) := by decide +kernel
theorem dX13_feed_117 : decode cX13_feed 117 = .ok (.aload_n 0, 1) := by decide +kernel
theorem dX13_feed_118 : decode cX13_feed 118 = .ok (.getfield 221, 3) := by decide +kernel
theorem dX13_feed_121 : decode cX13_feed 121 = .ok (.ireturn, 1) := by decide +kernel
theorem dX13_wrong_0 : decode cX13_wrong 0 = .ok (.aload_n 0, 1) := by decide +kernel
theorem dX13_wrong_1 : decode cX13_wrong 1 = .ok (.aload_n 1, 1) := by decide +kernel
theorem dX13_wrong_2 : decode cX13_wrong 2 = .ok (.getfield 132, 3) := by decide +kernel
theorem dX13_wrong_5 : decode cX13_wrong 5 = .ok (.putfield 224, 3) := by decide +kernel
theorem dX13_wrong_8 : decode cX13_wrong 8 = .ok (.aload_n 0, 1) := by decide +kernel
theorem dX13_wrong_9 : decode cX13_wrong 9 = .ok (.iconst 4, 1) := by decide +kernel
theorem dX13_wrong_10 : decode cX13_wrong 10 = .ok (.putfield 7, 3) := by decide +kernel
theorem dX13_wrong_13 : decode cX13_wrong 13 = .ok (.aload_n 0, 1) := by decide +kernel
theorem dX13_wrong_14 : decode cX13_wrong 14 = .ok (.aload_n 1, 1) := by decide +kernel
theorem dX13_wrong_15 : decode cX13_wrong 15 = .ok (.getfield 138, 3) := by decide +kernel
theorem dX13_wrong_18 : decode cX13_wrong 18 = .ok (.putfield 10, 3) := by decide +kernel
theorem dX13_wrong_21 : decode cX13_wrong 21 = .ok (.iconst (-1), 1) := by decide +kernel
theorem dX13_wrong_22 : decode cX13_wrong 22 = .ok (.ireturn, 1) := by decide +kernel
theorem dX13_plan_0 : decode cX13_plan 0 = .ok (.aload_n 0, 1) := by decide +kernel
theorem dX13_plan_1 : decode cX13_plan 1 = .ok (.iconst 0, 1) := by decide +kernel
theorem dX13_plan_2 : decode cX13_plan 2 = .ok (.putfield 1, 3) := by decide +kernel
theorem dX13_plan_5 : decode cX13_plan 5 = .ok (.iload_n 1, 1) := by decide +kernel
theorem dX13_plan_6 : decode cX13_plan 6 = .ok (.ifCond .lt 11, 3) := by decide +kernel
theorem dX13_plan_9 : decode cX13_plan 9 = .ok (.iload_n 1, 1) := by decide +kernel
theorem dX13_plan_10 : decode cX13_plan 10 = .ok (.aload_n 0, 1) := by decide +kernel
theorem dX13_plan_11 : decode cX13_plan 11 = .ok (.getfield 221, 3) := by decide +kernel
theorem dX13_plan_14 : decode cX13_plan 14 = .ok (.if_icmp .le 9, 3) := by decide +kernel
theorem dX13_plan_17 : decode cX13_plan 17 = .ok (.aload_n 0, 1) := by decide +kernel
theorem dX13_plan_18 : decode cX13_plan 18 = .ok (.iconst 2, 1) := by decide +kernel
theorem dX13_plan_19 : decode cX13_plan 19 = .ok (.invokevirtual 121, 3) := by decide +kernel
theorem dX13_plan_22 : decode cX13_plan 22 = .ok (.ireturn, 1) := by decide +kernel
theorem dX13_plan_23 : decode cX13_plan 23 = .ok (.aload_n 0, 1) := by decide +kernel
theorem dX13_plan_24 : decode cX13_plan 24 = .ok (.iload_n 1, 1) := by decide +kernel
theorem dX13_plan_25 : decode cX13_plan 25 = .ok (.invokevirtual 266, 3) := by decide +kernel
theorem dX13_plan_28 : decode cX13_plan 28 = .ok (.aload_n 0, 1) := by decide +kernel
theorem dX13_plan_29 : decode cX13_plan 29 = .ok (.invokevirtual 269, 3) := by decide +kernel
theorem dX13_plan_32 : decode cX13_plan 32 = .ok (.goto 10, 3) := by decide +kernel
theorem dX13_plan_35 : decode cX13_plan 35 = .ok (.astore_n 2, 1) := by decide +kernel
theorem dX13_plan_36 : decode cX13_plan 36 = .ok (.aload_n 0, 1) := by decide +kernel
theorem dX13_plan_37 : decode cX13_plan 37 = .ok (.aload_n 2, 1) := by decide +kernel
theorem dX13_plan_38 : decode cX13_plan 38 = .ok (.invokevirtual 272, 3) := by decide +kernel
theorem dX13_plan_41 : decode cX13_plan 41 = .ok (.ireturn, 1) := by decide +kernel
theorem dX13_plan_42 : decode cX13_plan 42 = .ok (.aload_n 0, 1) := by decide +kernel
theorem dX13_plan_43 : decode cX13_plan 43 = .ok (.getfield 227, 3) := by decide +kernel
theorem dX13_plan_46 : decode cX13_plan 46 = .ok (.bipush 8, 2) := by decide +kernel
theorem dX13_plan_48 : decode cX13_plan 48 = .ok (.if_icmp .ne 9, 3) := by decide +kernel
theorem dX13_plan_51 : decode cX13_plan 51 = .ok (.aload_n 0, 1) := by decide +kernel
theorem dX13_plan_52 : decode cX13_plan 52 = .ok (.iconst 3, 1) := by decide +kernel
theorem dX13_plan_53 : decode cX13_plan 53 = .ok (.invokevirtual 121, 3) := by decide +kernel
theorem dX13_plan_56 : decode cX13_plan 56 = .ok (.ireturn, 1) := by decide +kernel
theorem dX13_plan_57 : decode cX13_plan 57 = .ok (.aload_n 0, 1) := by decide +kernel
theorem dX13_plan_58 : decode cX13_plan 58 = .ok (.dup, 1) := by decide +kernel
theorem dX13_plan_59 : decode cX13_plan 59 = .ok (.getfield 227, 3) := by decide +kernel
theorem dX13_plan_62 : decode cX13_plan 62 = .ok (.iconst 1, 1) := by decide +kernel
theorem dX13_plan_63 : decode cX13_plan 63 = .ok (.iadd, 1) := by decide +kernel
theorem dX13_plan_64 : decode cX13_plan 64 = .ok (.putfield 227, 3) := by decide +kernel
theorem dX13_plan_67 : decode cX13_plan 67 = .ok (.aload_n 0, 1) := by decide +kernel
theorem dX13_plan_68 : decode cX13_plan 68 = .ok (.aload_n 0, 1) := by decide +kernel
theorem dX13_plan_69 : decode cX13_plan 69 = .ok (.getfield 227, 3) := by decide +kernel
theorem dX13_plan_72 : decode cX13_plan 72 = .ok (.iconst 1, 1) := by decide +kernel
theorem dX13_plan_73 : decode cX13_plan 73 = .ok (.isub, 1) := by decide +kernel
theorem dX13_plan_74 : decode cX13_plan 74 = .ok (.invokevirtual 129, 3) := by decide +kernel
theorem dX13_plan_77 : decode cX13_plan 77 = .ok (.ireturn, 1) := by decide +kernel
theorem dX13_laws_0 : decode cX13_laws 0 = .ok (.aload_n 0, 1) := by decide +kernel
theorem dX13_laws_1 : decode cX13_laws 1 = .ok (.iconst 0, 1) := by decide +kernel
theorem dX13_laws_2 : decode cX13_laws 2 = .ok (.putfield 1, 3) := by decide +kernel
theorem dX13_laws_5 : decode cX13_laws 5 = .ok (.iload_n 1, 1) := by decide +kernel
theorem dX13_laws_6 : decode cX13_laws 6 = .ok (.ifCond .lt 11, 3) := by decide +kernel
theorem dX13_laws_9 : decode cX13_laws 9 = .ok (.iload_n 1, 1) := by decide +kernel
theorem dX13_laws_10 : decode cX13_laws 10 = .ok (.aload_n 0, 1) := by decide +kernel
theorem dX13_laws_11 : decode cX13_laws 11 = .ok (.getfield 221, 3) := by decide +kernel
theorem dX13_laws_14 : decode cX13_laws 14 = .ok (.if_icmp .le 9, 3) := by decide +kernel
theorem dX13_laws_17 : decode cX13_laws 17 = .ok (.aload_n 0, 1) := by decide +kernel
theorem dX13_laws_18 : decode cX13_laws 18 = .ok (.iconst 2, 1) := by decide +kernel
theorem dX13_laws_19 : decode cX13_laws 19 = .ok (.invokevirtual 121, 3) := by decide +kernel
theorem dX13_laws_22 : decode cX13_laws 22 = .ok (.ireturn, 1) := by decide +kernel
theorem dX13_laws_23 : decode cX13_laws 23 = .ok (.aload_n 0, 1) := by decide +kernel
theorem dX13_laws_24 : decode cX13_laws 24 = .ok (.iload_n 1, 1) := by decide +kernel
theorem dX13_laws_25 : decode cX13_laws 25 = .ok (.invokevirtual 266, 3) := by decide +kernel
theorem dX13_laws_28 : decode cX13_laws 28 = .ok (.aload_n 0, 1) := by decide +kernel
theorem dX13_laws_29 : decode cX13_laws 29 = .ok (.invokevirtual 276, 3) := by decide +kernel
theorem dX13_laws_32 : decode cX13_laws 32 = .ok (.istore_n 2, 1) := by decide +kernel
theorem dX13_laws_33 : decode cX13_laws 33 = .ok (.goto 10, 3) := by decide +kernel
theorem dX13_laws_36 : decode cX13_laws 36 = .ok (.astore_n 3, 1) := by decide +kernel
theorem dX13_laws_37 : decode cX13_laws 37 = .ok (.aload_n 0, 1) := by decide +kernel
theorem dX13_laws_38 : decode cX13_laws 38 = .ok (.aload_n 3, 1) := by decide +kernel
theorem dX13_laws_39 : decode cX13_laws 39 = .ok (.invokevirtual 272, 3) := by decide +kernel
theorem dX13_laws_42 : decode cX13_laws 42 = .ok (.ireturn, 1) := by decide +kernel
theorem dX13_laws_43 : decode cX13_laws 43 = .ok (.aload_n 0, 1) := by decide +kernel
theorem dX13_laws_44 : decode cX13_laws 44 = .ok (.iload_n 2, 1) := by decide +kernel
theorem dX13_laws_45 : decode cX13_laws 45 = .ok (.putfield 250, 3) := by decide +kernel
theorem dX13_laws_48 : decode cX13_laws 48 = .ok (.aload_n 0, 1) := by decide +kernel
theorem dX13_laws_49 : decode cX13_laws 49 = .ok (.aload_n 0, 1) := by decide +kernel
theorem dX13_laws_50 : decode cX13_laws 50 = .ok (.getfield 250, 3) := by decide +kernel
theorem dX13_laws_53 : decode cX13_laws 53 = .ok (.invokevirtual 129, 3) := by decide +kernel
theorem dX13_laws_56 : decode cX13_laws 56 = .ok (.ireturn, 1) := by decide +kernel
theorem dX13_fault_0 : decode cX13_fault 0 = .ok (.aload_n 0, 1) := by decide +kernel
theorem dX13_fault_1 : decode cX13_fault 1 = .ok (.iconst 0, 1) := by decide +kernel
theorem dX13_fault_2 : decode cX13_fault 2 = .ok (.putfield 1, 3) := by decide +kernel
theorem dX13_fault_5 : decode cX13_fault 5 = .ok (.aload_n 0, 1) := by decide +kernel
theorem dX13_fault_6 : decode cX13_fault 6 = .ok (.getfield 224, 3) := by decide +kernel
theorem dX13_fault_9 : decode cX13_fault 9 = .ok (.ireturn, 1) := by decide +kernel
theorem dX13_where_0 : decode cX13_where 0 = .ok (.aload_n 0, 1) := by decide +kernel
theorem dX13_where_1 : decode cX13_where 1 = .ok (.iconst 0, 1) := by decide +kernel
theorem dX13_where_2 : decode cX13_where 2 = .ok (.putfield 1, 3) := by decide +kernel
theorem dX13_where_5 : decode cX13_where 5 = .ok (.aload_n 0, 1) := by decide +kernel
theorem dX13_where_6 : decode cX13_where 6 = .ok (.getfield 10, 3) := by decide +kernel
theorem dX13_where_9 : decode cX13_where 9 = .ok (.ireturn, 1) := by decide +kernel
theorem dX13_law_0 : decode cX13_law 0 = .ok (.aload_n 0, 1) := by decide +kernel
theorem dX13_law_1 : decode cX13_law 1 = .ok (.iconst 0, 1) := by decide +kernel
theorem dX13_law_2 : decode cX13_law 2 = .ok (.putfield 1, 3) := by decide +kernel
theorem dX13_law_5 : decode cX13_law 5 = .ok (.iload_n 1, 1) := by decide +kernel
theorem dX13_law_6 : decode cX13_law 6 = .ok (.ifCond .lt 33, 3) := by decide +kernel
theorem dX13_law_9 : decode cX13_law 9 = .ok (.iload_n 1, 1) := by decide +kernel
theorem dX13_law_10 : decode cX13_law 10 = .ok (.aload_n 0, 1) := by decide +kernel
theorem dX13_law_11 : decode cX13_law 11 = .ok (.getfield 250, 3) := by decide +kernel
theorem dX13_law_14 : decode cX13_law 14 = .ok (.if_icmp .ge 25, 3) := by decide +kernel
theorem dX13_law_17 : decode cX13_law 17 = .ok (.iload_n 2, 1) := by decide +kernel
theorem dX13_law_18 : decode cX13_law 18 = .ok (.iconst 0, 1) := by decide +kernel
theorem dX13_law_19 : decode cX13_law 19 = .ok (.iconst 3, 1) := by decide +kernel
theorem dX13_law_20 : decode cX13_law 20 = .ok (.invokestatic 125, 3) := by decide +kernel
theorem dX13_law_23 : decode cX13_law 23 = .ok (.ifCond .eq 16, 3) := by decide +kernel
theorem dX13_law_26 : decode cX13_law 26 = .ok (.aload_n 0, 1) := by decide +kernel
theorem dX13_law_27 : decode cX13_law 27 = .ok (.getfield 88, 3) := by decide +kernel
theorem dX13_law_30 : decode cX13_law 30 = .ok (.iconst 4, 1) := by decide +kernel
theorem dX13_law_31 : decode cX13_law 31 = .ok (.iload_n 1, 1) := by decide +kernel
theorem dX13_law_32 : decode cX13_law 32 = .ok (.imul, 1) := by decide +kernel
theorem dX13_law_33 : decode cX13_law 33 = .ok (.iload_n 2, 1) := by decide +kernel
theorem dX13_law_34 : decode cX13_law 34 = .ok (.iadd, 1) := by decide +kernel
theorem dX13_law_35 : decode cX13_law 35 = .ok (.iaload, 1) := by decide +kernel
theorem dX13_law_36 : decode cX13_law 36 = .ok (.goto 4, 3) := by decide +kernel
theorem dX13_law_39 : decode cX13_law 39 = .ok (.iconst (-1), 1) := by decide +kernel
theorem dX13_law_40 : decode cX13_law 40 = .ok (.ireturn, 1) := by decide +kernel
theorem dX13_planned_0 : decode cX13_planned 0 = .ok (.aload_n 0, 1) := by decide +kernel
theorem dX13_planned_1 : decode cX13_planned 1 = .ok (.iconst 0, 1) := by decide +kernel
theorem dX13_planned_2 : decode cX13_planned 2 = .ok (.putfield 1, 3) := by decide +kernel
theorem dX13_planned_5 : decode cX13_planned 5 = .ok (.iload_n 1, 1) := by decide +kernel
theorem dX13_planned_6 : decode cX13_planned 6 = .ok (.ifCond .lt 11, 3) := by decide +kernel
theorem dX13_planned_9 : decode cX13_planned 9 = .ok (.iload_n 1, 1) := by decide +kernel
theorem dX13_planned_10 : decode cX13_planned 10 = .ok (.aload_n 0, 1) := by decide +kernel
theorem dX13_planned_11 : decode cX13_planned 11 = .ok (.getfield 227, 3) := by decide +kernel
theorem dX13_planned_14 : decode cX13_planned 14 = .ok (.if_icmp .lt 5, 3) := by decide +kernel
theorem dX13_planned_17 : decode cX13_planned 17 = .ok (.iconst (-1), 1) := by decide +kernel
theorem dX13_planned_18 : decode cX13_planned 18 = .ok (.ireturn, 1) := by decide +kernel
theorem dX13_planned_19 : decode cX13_planned 19 = .ok (.iload_n 2, 1) := by decide +kernel
theorem dX13_planned_20 : decode cX13_planned 20 = .ok (.ifCond .ne 10, 3) := by decide +kernel
theorem dX13_planned_23 : decode cX13_planned 23 = .ok (.aload_n 0, 1) := by decide +kernel
theorem dX13_planned_24 : decode cX13_planned 24 = .ok (.getfield 69, 3) := by decide +kernel
theorem dX13_planned_27 : decode cX13_planned 27 = .ok (.iload_n 1, 1) := by decide +kernel
theorem dX13_planned_28 : decode cX13_planned 28 = .ok (.iaload, 1) := by decide +kernel
theorem dX13_planned_29 : decode cX13_planned 29 = .ok (.ireturn, 1) := by decide +kernel
theorem dX13_planned_30 : decode cX13_planned 30 = .ok (.iload_n 2, 1) := by decide +kernel
theorem dX13_planned_31 : decode cX13_planned 31 = .ok (.iconst 1, 1) := by decide +kernel
theorem dX13_planned_32 : decode cX13_planned 32 = .ok (.if_icmp .eq 5, 3) := by decide +kernel
theorem dX13_planned_35 : decode cX13_planned 35 = .ok (.iconst (-1), 1) := by decide +kernel
theorem dX13_planned_36 : decode cX13_planned 36 = .ok (.ireturn, 1) := by decide +kernel
theorem dX13_planned_37 : decode cX13_planned 37 = .ok (.iconst 0, 1) := by decide +kernel
theorem dX13_planned_38 : decode cX13_planned 38 = .ok (.istore_n 3, 1) := by decide +kernel
theorem dX13_planned_39 : decode cX13_planned 39 = .ok (.iconst 0, 1) := by decide +kernel
theorem dX13_planned_40 : decode cX13_planned 40 = .ok (.istore 4, 2) := by decide +kernel
theorem dX13_planned_42 : decode cX13_planned 42 = .ok (.iload 4, 2) := by decide +kernel
theorem dX13_planned_44 : decode cX13_planned 44 = .ok (.aload_n 0, 1) := by decide +kernel
theorem dX13_planned_45 : decode cX13_planned 45 = .ok (.getfield 69, 3) := by decide +kernel
theorem dX13_planned_48 : decode cX13_planned 48 = .ok (.iload_n 1, 1) := by decide +kernel
theorem dX13_planned_49 : decode cX13_planned 49 = .ok (.iaload, 1) := by decide +kernel
theorem dX13_planned_50 : decode cX13_planned 50 = .ok (.if_icmp .ge 24, 3) := by decide +kernel
theorem dX13_planned_53 : decode cX13_planned 53 = .ok (.iload_n 3, 1) := by decide +kernel
theorem dX13_planned_54 : decode cX13_planned 54 = .ok (.aload_n 0, 1) := by decide +kernel
theorem dX13_planned_55 : decode cX13_planned 55 = .ok (.getfield 75, 3) := by decide +kernel
theorem dX13_planned_58 : decode cX13_planned 58 = .ok (.bipush 12, 2) := by decide +kernel
theorem dX13_planned_60 : decode cX13_planned 60 = .ok (.iload_n 1, 1) := by decide +kernel
theorem dX13_planned_61 : decode cX13_planned 61 = .ok (.imul, 1) := by decide +kernel
theorem dX13_planned_62 : decode cX13_planned 62 = .ok (.iload 4, 2) := by decide +kernel
theorem dX13_planned_64 : decode cX13_planned 64 = .ok (.iadd, 1) := by decide +kernel
theorem dX13_planned_65 : decode cX13_planned 65 = .ok (.iaload, 1) := by decide +kernel
theorem dX13_planned_66 : decode cX13_planned 66 = .ok (.iadd, 1) := by decide +kernel
theorem dX13_planned_67 : decode cX13_planned 67 = .ok (.istore_n 3, 1) := by decide +kernel
theorem dX13_planned_68 : decode cX13_planned 68 = .ok (.iinc 4 1, 3) := by decide +kernel
theorem dX13_planned_71 : decode cX13_planned 71 = .ok (.goto (-29), 3) := by decide +kernel
theorem dX13_planned_74 : decode cX13_planned 74 = .ok (.iload_n 3, 1) := by decide +kernel
theorem dX13_planned_75 : decode cX13_planned 75 = .ok (.ireturn, 1) := by decide +kernel
theorem dX13_isTeam_0 : decode cX13_isTeam 0 = .ok (.iload_n 1, 1) := by decide +kernel
theorem dX13_isTeam_1 : decode cX13_isTeam 1 = .ok (.ifCond .lt 15, 3) := by decide +kernel
theorem dX13_isTeam_4 : decode cX13_isTeam 4 = .ok (.iload_n 1, 1) := by decide +kernel
theorem dX13_isTeam_5 : decode cX13_isTeam 5 = .ok (.aload_n 0, 1) := by decide +kernel
theorem dX13_isTeam_6 : decode cX13_isTeam 6 = .ok (.getfield 94, 3) := by decide +kernel
theorem dX13_isTeam_9 : decode cX13_isTeam 9 = .ok (.if_icmp .ge 7, 3) := by decide +kernel
theorem dX13_isTeam_12 : decode cX13_isTeam 12 = .ok (.iconst 1, 1) := by decide +kernel
theorem dX13_isTeam_13 : decode cX13_isTeam 13 = .ok (.goto 4, 3) := by decide +kernel
theorem dX13_isTeam_16 : decode cX13_isTeam 16 = .ok (.iconst 0, 1) := by decide +kernel
theorem dX13_isTeam_17 : decode cX13_isTeam 17 = .ok (.ireturn, 1) := by decide +kernel
theorem dX13_isPlan_0 : decode cX13_isPlan 0 = .ok (.iload_n 1, 1) := by decide +kernel
theorem dX13_isPlan_1 : decode cX13_isPlan 1 = .ok (.ifCond .lt 15, 3) := by decide +kernel
theorem dX13_isPlan_4 : decode cX13_isPlan 4 = .ok (.iload_n 1, 1) := by decide +kernel
theorem dX13_isPlan_5 : decode cX13_isPlan 5 = .ok (.aload_n 0, 1) := by decide +kernel
theorem dX13_isPlan_6 : decode cX13_isPlan 6 = .ok (.getfield 227, 3) := by decide +kernel
theorem dX13_isPlan_9 : decode cX13_isPlan 9 = .ok (.if_icmp .ge 7, 3) := by decide +kernel
theorem dX13_isPlan_12 : decode cX13_isPlan 12 = .ok (.iconst 1, 1) := by decide +kernel
theorem dX13_isPlan_13 : decode cX13_isPlan 13 = .ok (.goto 4, 3) := by decide +kernel
theorem dX13_isPlan_16 : decode cX13_isPlan 16 = .ok (.iconst 0, 1) := by decide +kernel
theorem dX13_isPlan_17 : decode cX13_isPlan 17 = .ok (.ireturn, 1) := by decide +kernel
theorem dX13_team_0 : decode cX13_team 0 = .ok (.aload_n 0, 1) := by decide +kernel
theorem dX13_team_1 : decode cX13_team 1 = .ok (.iconst 0, 1) := by decide +kernel
theorem dX13_team_2 : decode cX13_team 2 = .ok (.putfield 1, 3) := by decide +kernel
theorem dX13_team_5 : decode cX13_team 5 = .ok (.aload_n 0, 1) := by decide +kernel
theorem dX13_team_6 : decode cX13_team 6 = .ok (.getfield 100, 3) := by decide +kernel
theorem dX13_team_9 : decode cX13_team 9 = .ok (.ifCond .gt 10, 3) := by decide +kernel
theorem dX13_team_12 : decode cX13_team 12 = .ok (.aload_n 0, 1) := by decide +kernel
theorem dX13_team_13 : decode cX13_team 13 = .ok (.getfield 91, 3) := by decide +kernel
theorem dX13_team_16 : decode cX13_team 16 = .ok (.ifCond .ne 9, 3) := by decide +kernel
theorem dX13_team_19 : decode cX13_team 19 = .ok (.aload_n 0, 1) := by decide +kernel
theorem dX13_team_20 : decode cX13_team 20 = .ok (.iconst 5, 1) := by decide +kernel
theorem dX13_team_21 : decode cX13_team 21 = .ok (.invokevirtual 121, 3) := by decide +kernel
theorem dX13_team_24 : decode cX13_team 24 = .ok (.ireturn, 1) := by decide +kernel
theorem dX13_team_25 : decode cX13_team 25 = .ok (.aload_n 0, 1) := by decide +kernel
theorem dX13_team_26 : decode cX13_team 26 = .ok (.iload 5, 2) := by decide +kernel
theorem dX13_team_28 : decode cX13_team 28 = .ok (.invokevirtual 279, 3) := by decide +kernel
theorem dX13_team_31 : decode cX13_team 31 = .ok (.ifCond .ne 9, 3) := by decide +kernel
theorem dX13_team_34 : decode cX13_team 34 = .ok (.aload_n 0, 1) := by decide +kernel
theorem dX13_team_35 : decode cX13_team 35 = .ok (.iconst 1, 1) := by decide +kernel
theorem dX13_team_36 : decode cX13_team 36 = .ok (.invokevirtual 121, 3) := by decide +kernel
theorem dX13_team_39 : decode cX13_team 39 = .ok (.ireturn, 1) := by decide +kernel
theorem dX13_team_40 : decode cX13_team 40 = .ok (.iload_n 1, 1) := by decide +kernel
theorem dX13_team_41 : decode cX13_team 41 = .ok (.iconst 4, 1) := by decide +kernel
theorem dX13_team_42 : decode cX13_team 42 = .ok (.bipush 16, 2) := by decide +kernel
theorem dX13_team_44 : decode cX13_team 44 = .ok (.invokestatic 125, 3) := by decide +kernel
theorem dX13_team_47 : decode cX13_team 47 = .ok (.ifCond .eq 36, 3) := by decide +kernel
theorem dX13_team_50 : decode cX13_team 50 = .ok (.iload_n 2, 1) := by decide +kernel
theorem dX13_team_51 : decode cX13_team 51 = .ok (.bipush 20, 2) := by decide +kernel
theorem dX13_team_53 : decode cX13_team 53 = .ok (.sipush 300, 3) := by decide +kernel
theorem dX13_team_56 : decode cX13_team 56 = .ok (.invokestatic 125, 3) := by decide +kernel
theorem dX13_team_59 : decode cX13_team 59 = .ok (.ifCond .eq 24, 3) := by decide +kernel
theorem dX13_team_62 : decode cX13_team 62 = .ok (.iload_n 3, 1) := by decide +kernel
theorem dX13_team_63 : decode cX13_team 63 = .ok (.iconst 0, 1) := by decide +kernel
theorem dX13_team_64 : decode cX13_team 64 = .ok (.bipush 60, 2) := by decide +kernel
theorem dX13_team_66 : decode cX13_team 66 = .ok (.invokestatic 125, 3) := by decide +kernel
theorem dX13_team_69 : decode cX13_team 69 = .ok (.ifCond .eq 14, 3) := by decide +kernel
theorem dX13_team_72 : decode cX13_team 72 = .ok (.iload 4, 2) := by decide +kernel
theorem dX13_team_74 : decode cX13_team 74 = .ok (.iconst 0, 1) := by decide +kernel
theorem dX13_team_75 : decode cX13_team 75 = .ok (.bipush 100, 2) := by decide +kernel
theorem dX13_team_77 : decode cX13_team 77 = .ok (.invokestatic 125, 3) := by decide +kernel
theorem dX13_team_80 : decode cX13_team 80 = .ok (.ifCond .ne 9, 3) := by decide +kernel
theorem dX13_team_83 : decode cX13_team 83 = .ok (.aload_n 0, 1) := by decide +kernel
theorem dX13_team_84 : decode cX13_team 84 = .ok (.iconst 2, 1) := by decide +kernel
theorem dX13_team_85 : decode cX13_team 85 = .ok (.invokevirtual 121, 3) := by decide +kernel
theorem dX13_team_88 : decode cX13_team 88 = .ok (.ireturn, 1) := by decide +kernel
theorem dX13_team_89 : decode cX13_team 89 = .ok (.aload_n 0, 1) := by decide +kernel
theorem dX13_team_90 : decode cX13_team 90 = .ok (.getfield 94, 3) := by decide +kernel
theorem dX13_team_93 : decode cX13_team 93 = .ok (.bipush 6, 2) := by decide +kernel
theorem dX13_team_95 : decode cX13_team 95 = .ok (.if_icmp .ne 9, 3) := by decide +kernel
theorem dX13_team_98 : decode cX13_team 98 = .ok (.aload_n 0, 1) := by decide +kernel
theorem dX13_team_99 : decode cX13_team 99 = .ok (.iconst 3, 1) := by decide +kernel
theorem dX13_team_100 : decode cX13_team 100 = .ok (.invokevirtual 121, 3) := by decide +kernel
theorem dX13_team_103 : decode cX13_team 103 = .ok (.ireturn, 1) := by decide +kernel
theorem dX13_team_104 : decode cX13_team 104 = .ok (.aload_n 0, 1) := by decide +kernel
theorem dX13_team_105 : decode cX13_team 105 = .ok (.getfield 34, 3) := by decide +kernel
theorem dX13_team_108 : decode cX13_team 108 = .ok (.aload_n 0, 1) := by decide +kernel
theorem dX13_team_109 : decode cX13_team 109 = .ok (.getfield 94, 3) := by decide +kernel
theorem dX13_team_112 : decode cX13_team 112 = .ok (.aaload, 1) := by decide +kernel
theorem dX13_team_113 : decode cX13_team 113 = .ok (.iload_n 1, 1) := by decide +kernel
theorem dX13_team_114 : decode cX13_team 114 = .ok (.iload_n 2, 1) := by decide +kernel
theorem dX13_team_115 : decode cX13_team 115 = .ok (.iload_n 3, 1) := by decide +kernel
theorem dX13_team_116 : decode cX13_team 116 = .ok (.iload 4, 2) := by decide +kernel
theorem dX13_team_118 : decode cX13_team 118 = .ok (.iload 5, 2) := by decide +kernel
theorem dX13_team_120 : decode cX13_team 120 = .ok (.invokevirtual 282, 3) := by decide +kernel
theorem dX13_team_123 : decode cX13_team 123 = .ok (.aload_n 0, 1) := by decide +kernel
theorem dX13_team_124 : decode cX13_team 124 = .ok (.dup, 1) := by decide +kernel
theorem dX13_team_125 : decode cX13_team 125 = .ok (.getfield 94, 3) := by decide +kernel
theorem dX13_team_128 : decode cX13_team 128 = .ok (.iconst 1, 1) := by decide +kernel
theorem dX13_team_129 : decode cX13_team 129 = .ok (.iadd, 1) := by decide +kernel
theorem dX13_team_130 : decode cX13_team 130 = .ok (.putfield 94, 3) := by decide +kernel
theorem dX13_team_133 : decode cX13_team 133 = .ok (.aload_n 0, 1) := by decide +kernel
theorem dX13_team_134 : decode cX13_team 134 = .ok (.aload_n 0, 1) := by decide +kernel
theorem dX13_team_135 : decode cX13_team 135 = .ok (.getfield 94, 3) := by decide +kernel
theorem dX13_team_138 : decode cX13_team 138 = .ok (.iconst 1, 1) := by decide +kernel
theorem dX13_team_139 : decode cX13_team 139 = .ok (.isub, 1) := by decide +kernel
theorem dX13_team_140 : decode cX13_team 140 = .ok (.invokevirtual 129, 3) := by decide +kernel
theorem dX13_team_143 : decode cX13_team 143 = .ok (.ireturn, 1) := by decide +kernel
theorem dX13_follow_0 : decode cX13_follow 0 = .ok (.aload_n 0, 1) := by decide +kernel
theorem dX13_follow_1 : decode cX13_follow 1 = .ok (.iconst 0, 1) := by decide +kernel
theorem dX13_follow_2 : decode cX13_follow 2 = .ok (.putfield 1, 3) := by decide +kernel
theorem dX13_follow_5 : decode cX13_follow 5 = .ok (.aload_n 0, 1) := by decide +kernel
theorem dX13_follow_6 : decode cX13_follow 6 = .ok (.iload_n 1, 1) := by decide +kernel
theorem dX13_follow_7 : decode cX13_follow 7 = .ok (.invokevirtual 286, 3) := by decide +kernel
theorem dX13_follow_10 : decode cX13_follow 10 = .ok (.ifCond .eq 11, 3) := by decide +kernel
theorem dX13_follow_13 : decode cX13_follow 13 = .ok (.aload_n 0, 1) := by decide +kernel
theorem dX13_follow_14 : decode cX13_follow 14 = .ok (.iload_n 2, 1) := by decide +kernel
theorem dX13_follow_15 : decode cX13_follow 15 = .ok (.invokevirtual 279, 3) := by decide +kernel
theorem dX13_follow_18 : decode cX13_follow 18 = .ok (.ifCond .ne 9, 3) := by decide +kernel
theorem dX13_follow_21 : decode cX13_follow 21 = .ok (.aload_n 0, 1) := by decide +kernel
theorem dX13_follow_22 : decode cX13_follow 22 = .ok (.iconst 1, 1) := by decide +kernel
theorem dX13_follow_23 : decode cX13_follow 23 = .ok (.invokevirtual 113, 3) := by decide +kernel
theorem dX13_follow_26 : decode cX13_follow 26 = .ok (.ireturn, 1) := by decide +kernel
theorem dX13_follow_27 : decode cX13_follow 27 = .ok (.aload_n 0, 1) := by decide +kernel
theorem dX13_follow_28 : decode cX13_follow 28 = .ok (.getfield 34, 3) := by decide +kernel
theorem dX13_follow_31 : decode cX13_follow 31 = .ok (.iload_n 1, 1) := by decide +kernel
theorem dX13_follow_32 : decode cX13_follow 32 = .ok (.aaload, 1) := by decide +kernel
theorem dX13_follow_33 : decode cX13_follow 33 = .ok (.astore_n 3, 1) := by decide +kernel
theorem dX13_follow_34 : decode cX13_follow 34 = .ok (.aload_n 3, 1) := by decide +kernel
theorem dX13_follow_35 : decode cX13_follow 35 = .ok (.getfield 289, 3) := by decide +kernel
theorem dX13_follow_38 : decode cX13_follow 38 = .ok (.iconst 1, 1) := by decide +kernel
theorem dX13_follow_39 : decode cX13_follow 39 = .ok (.if_icmp .le 9, 3) := by decide +kernel
theorem dX13_follow_42 : decode cX13_follow 42 = .ok (.aload_n 0, 1) := by decide +kernel
theorem dX13_follow_43 : decode cX13_follow 43 = .ok (.iconst 5, 1) := by decide +kernel
theorem dX13_follow_44 : decode cX13_follow 44 = .ok (.invokevirtual 113, 3) := by decide +kernel
theorem dX13_follow_47 : decode cX13_follow 47 = .ok (.ireturn, 1) := by decide +kernel
theorem dX13_follow_48 : decode cX13_follow 48 = .ok (.aload_n 3, 1) := by decide +kernel
theorem dX13_follow_49 : decode cX13_follow 49 = .ok (.iload_n 2, 1) := by decide +kernel
theorem dX13_follow_50 : decode cX13_follow 50 = .ok (.putfield 292, 3) := by decide +kernel
theorem dX13_follow_53 : decode cX13_follow 53 = .ok (.aload_n 0, 1) := by decide +kernel
theorem dX13_follow_54 : decode cX13_follow 54 = .ok (.invokevirtual 117, 3) := by decide +kernel
theorem dX13_follow_57 : decode cX13_follow 57 = .ok (.ireturn, 1) := by decide +kernel
theorem dX13_gap_0 : decode cX13_gap 0 = .ok (.aload_n 0, 1) := by decide +kernel
theorem dX13_gap_1 : decode cX13_gap 1 = .ok (.iconst 0, 1) := by decide +kernel
theorem dX13_gap_2 : decode cX13_gap 2 = .ok (.putfield 1, 3) := by decide +kernel
theorem dX13_gap_5 : decode cX13_gap 5 = .ok (.aload_n 0, 1) := by decide +kernel
theorem dX13_gap_6 : decode cX13_gap 6 = .ok (.iload_n 1, 1) := by decide +kernel
theorem dX13_gap_7 : decode cX13_gap 7 = .ok (.invokevirtual 286, 3) := by decide +kernel
theorem dX13_gap_10 : decode cX13_gap 10 = .ok (.ifCond .ne 9, 3) := by decide +kernel
theorem dX13_gap_13 : decode cX13_gap 13 = .ok (.aload_n 0, 1) := by decide +kernel
theorem dX13_gap_14 : decode cX13_gap 14 = .ok (.iconst 1, 1) := by decide +kernel
theorem dX13_gap_15 : decode cX13_gap 15 = .ok (.invokevirtual 121, 3) := by decide +kernel
theorem dX13_gap_18 : decode cX13_gap 18 = .ok (.ireturn, 1) := by decide +kernel
theorem dX13_gap_19 : decode cX13_gap 19 = .ok (.iload_n 2, 1) := by decide +kernel
theorem dX13_gap_20 : decode cX13_gap 20 = .ok (.iconst 0, 1) := by decide +kernel
theorem dX13_gap_21 : decode cX13_gap 21 = .ok (.sipush 2000, 3) := by decide +kernel
theorem dX13_gap_24 : decode cX13_gap 24 = .ok (.invokestatic 125, 3) := by decide +kernel
theorem dX13_gap_27 : decode cX13_gap 27 = .ok (.ifCond .eq 14, 3) := by decide +kernel
theorem dX13_gap_30 : decode cX13_gap 30 = .ok (.iload_n 3, 1) := by decide +kernel
theorem dX13_gap_31 : decode cX13_gap 31 = .ok (.iload_n 2, 1) := by decide +kernel
theorem dX13_gap_32 : decode cX13_gap 32 = .ok (.sipush 2000, 3) := by decide +kernel
theorem dX13_gap_35 : decode cX13_gap 35 = .ok (.invokestatic 125, 3) := by decide +kernel
theorem dX13_gap_38 : decode cX13_gap 38 = .ok (.ifCond .ne 9, 3) := by decide +kernel
theorem dX13_gap_41 : decode cX13_gap 41 = .ok (.aload_n 0, 1) := by decide +kernel
theorem dX13_gap_42 : decode cX13_gap 42 = .ok (.iconst 2, 1) := by decide +kernel
theorem dX13_gap_43 : decode cX13_gap 43 = .ok (.invokevirtual 121, 3) := by decide +kernel
theorem dX13_gap_46 : decode cX13_gap 46 = .ok (.ireturn, 1) := by decide +kernel
theorem dX13_gap_47 : decode cX13_gap 47 = .ok (.aload_n 0, 1) := by decide +kernel
theorem dX13_gap_48 : decode cX13_gap 48 = .ok (.getfield 34, 3) := by decide +kernel
theorem dX13_gap_51 : decode cX13_gap 51 = .ok (.iload_n 1, 1) := by decide +kernel
theorem dX13_gap_52 : decode cX13_gap 52 = .ok (.aaload, 1) := by decide +kernel
theorem dX13_gap_53 : decode cX13_gap 53 = .ok (.astore 4, 2) := by decide +kernel
theorem dX13_gap_55 : decode cX13_gap 55 = .ok (.aload 4, 2) := by decide +kernel
theorem dX13_gap_57 : decode cX13_gap 57 = .ok (.getfield 295, 3) := by decide +kernel
theorem dX13_gap_60 : decode cX13_gap 60 = .ok (.iconst 4, 1) := by decide +kernel
theorem dX13_gap_61 : decode cX13_gap 61 = .ok (.if_icmp .ne 9, 3) := by decide +kernel
theorem dX13_gap_64 : decode cX13_gap 64 = .ok (.aload_n 0, 1) := by decide +kernel
theorem dX13_gap_65 : decode cX13_gap 65 = .ok (.iconst 3, 1) := by decide +kernel
theorem dX13_gap_66 : decode cX13_gap 66 = .ok (.invokevirtual 121, 3) := by decide +kernel
theorem dX13_gap_69 : decode cX13_gap 69 = .ok (.ireturn, 1) := by decide +kernel
theorem dX13_gap_70 : decode cX13_gap 70 = .ok (.aload 4, 2) := by decide +kernel
theorem dX13_gap_72 : decode cX13_gap 72 = .ok (.getfield 298, 3) := by decide +kernel
theorem dX13_gap_75 : decode cX13_gap 75 = .ok (.aload 4, 2) := by decide +kernel
theorem dX13_gap_77 : decode cX13_gap 77 = .ok (.getfield 295, 3) := by decide +kernel
theorem dX13_gap_80 : decode cX13_gap 80 = .ok (.iload_n 2, 1) := by decide +kernel
theorem dX13_gap_81 : decode cX13_gap 81 = .ok (.iastore, 1) := by decide +kernel
theorem dX13_gap_82 : decode cX13_gap 82 = .ok (.aload 4, 2) := by decide +kernel
theorem dX13_gap_84 : decode cX13_gap 84 = .ok (.getfield 301, 3) := by decide +kernel
theorem dX13_gap_87 : decode cX13_gap 87 = .ok (.aload 4, 2) := by decide +kernel
theorem dX13_gap_89 : decode cX13_gap 89 = .ok (.getfield 295, 3) := by decide +kernel
theorem dX13_gap_92 : decode cX13_gap 92 = .ok (.iload_n 3, 1) := by decide +kernel
theorem dX13_gap_93 : decode cX13_gap 93 = .ok (.iastore, 1) := by decide +kernel
theorem dX13_gap_94 : decode cX13_gap 94 = .ok (.aload 4, 2) := by decide +kernel
theorem dX13_gap_96 : decode cX13_gap 96 = .ok (.dup, 1) := by decide +kernel
theorem dX13_gap_97 : decode cX13_gap 97 = .ok (.getfield 295, 3) := by decide +kernel
theorem dX13_gap_100 : decode cX13_gap 100 = .ok (.iconst 1, 1) := by decide +kernel
theorem dX13_gap_101 : decode cX13_gap 101 = .ok (.iadd, 1) := by decide +kernel
theorem dX13_gap_102 : decode cX13_gap 102 = .ok (.putfield 295, 3) := by decide +kernel
theorem dX13_gap_105 : decode cX13_gap 105 = .ok (.aload_n 0, 1) := by decide +kernel
theorem dX13_gap_106 : decode cX13_gap 106 = .ok (.aload 4, 2) := by decide +kernel
theorem dX13_gap_108 : decode cX13_gap 108 = .ok (.getfield 295, 3) := by decide +kernel
theorem dX13_gap_111 : decode cX13_gap 111 = .ok (.invokevirtual 129, 3) := by decide +kernel
theorem dX13_gap_114 : decode cX13_gap 114 = .ok (.ireturn, 1) := by decide +kernel
theorem dX13_each_0 : decode cX13_each 0 = .ok (.aload_n 0, 1) := by decide +kernel
theorem dX13_each_1 : decode cX13_each 1 = .ok (.iconst 0, 1) := by decide +kernel
theorem dX13_each_2 : decode cX13_each 2 = .ok (.putfield 1, 3) := by decide +kernel
theorem dX13_each_5 : decode cX13_each 5 = .ok (.aload_n 0, 1) := by decide +kernel
theorem dX13_each_6 : decode cX13_each 6 = .ok (.getfield 100, 3) := by decide +kernel
theorem dX13_each_9 : decode cX13_each 9 = .ok (.ifCond .le 9, 3) := by decide +kernel
theorem dX13_each_12 : decode cX13_each 12 = .ok (.aload_n 0, 1) := by decide +kernel
theorem dX13_each_13 : decode cX13_each 13 = .ok (.iconst 5, 1) := by decide +kernel
theorem dX13_each_14 : decode cX13_each 14 = .ok (.invokevirtual 113, 3) := by decide +kernel
theorem dX13_each_17 : decode cX13_each 17 = .ok (.ireturn, 1) := by decide +kernel
theorem dX13_each_18 : decode cX13_each 18 = .ok (.iload_n 1, 1) := by decide +kernel
theorem dX13_each_19 : decode cX13_each 19 = .ok (.iconst 1, 1) := by decide +kernel
theorem dX13_each_20 : decode cX13_each 20 = .ok (.bipush 48, 2) := by decide +kernel
theorem dX13_each_22 : decode cX13_each 22 = .ok (.invokestatic 125, 3) := by decide +kernel
theorem dX13_each_25 : decode cX13_each 25 = .ok (.ifCond .ne 9, 3) := by decide +kernel
theorem dX13_each_28 : decode cX13_each 28 = .ok (.aload_n 0, 1) := by decide +kernel
theorem dX13_each_29 : decode cX13_each 29 = .ok (.iconst 2, 1) := by decide +kernel
theorem dX13_each_30 : decode cX13_each 30 = .ok (.invokevirtual 113, 3) := by decide +kernel
theorem dX13_each_33 : decode cX13_each 33 = .ok (.ireturn, 1) := by decide +kernel
theorem dX13_each_34 : decode cX13_each 34 = .ok (.aload_n 0, 1) := by decide +kernel
theorem dX13_each_35 : decode cX13_each 35 = .ok (.iload_n 1, 1) := by decide +kernel
theorem dX13_each_36 : decode cX13_each 36 = .ok (.putfield 19, 3) := by decide +kernel
theorem dX13_each_39 : decode cX13_each 39 = .ok (.aload_n 0, 1) := by decide +kernel
theorem dX13_each_40 : decode cX13_each 40 = .ok (.invokevirtual 117, 3) := by decide +kernel
theorem dX13_each_43 : decode cX13_each 43 = .ok (.ireturn, 1) := by decide +kernel
theorem dX13_way_0 : decode cX13_way 0 = .ok (.aload_n 1, 1) := by decide +kernel
theorem dX13_way_1 : decode cX13_way 1 = .ok (.getfield 304, 3) := by decide +kernel
theorem dX13_way_4 : decode cX13_way 4 = .ok (.istore_n 2, 1) := by decide +kernel
theorem dX13_way_5 : decode cX13_way 5 = .ok (.iconst 0, 1) := by decide +kernel
theorem dX13_way_6 : decode cX13_way 6 = .ok (.istore_n 3, 1) := by decide +kernel
theorem dX13_way_7 : decode cX13_way 7 = .ok (.iload_n 3, 1) := by decide +kernel
theorem dX13_way_8 : decode cX13_way 8 = .ok (.aload_n 1, 1) := by decide +kernel
theorem dX13_way_9 : decode cX13_way 9 = .ok (.getfield 307, 3) := by decide +kernel
theorem dX13_way_12 : decode cX13_way 12 = .ok (.if_icmp .ge 18, 3) := by decide +kernel
theorem dX13_way_15 : decode cX13_way 15 = .ok (.iload_n 2, 1) := by decide +kernel
theorem dX13_way_16 : decode cX13_way 16 = .ok (.aload_n 0, 1) := by decide +kernel
theorem dX13_way_17 : decode cX13_way 17 = .ok (.getfield 22, 3) := by decide +kernel
theorem dX13_way_20 : decode cX13_way 20 = .ok (.iload_n 3, 1) := by decide +kernel
theorem dX13_way_21 : decode cX13_way 21 = .ok (.iaload, 1) := by decide +kernel
theorem dX13_way_22 : decode cX13_way 22 = .ok (.iadd, 1) := by decide +kernel
theorem dX13_way_23 : decode cX13_way 23 = .ok (.istore_n 2, 1) := by decide +kernel
theorem dX13_way_24 : decode cX13_way 24 = .ok (.iinc 3 1, 3) := by decide +kernel
theorem dX13_way_27 : decode cX13_way 27 = .ok (.goto (-20), 3) := by decide +kernel
theorem dX13_way_30 : decode cX13_way 30 = .ok (.iload_n 2, 1) := by decide +kernel
theorem dX13_way_31 : decode cX13_way 31 = .ok (.ireturn, 1) := by decide +kernel
theorem dX13_trail_0 : decode cX13_trail 0 = .ok (.iconst 0, 1) := by decide +kernel
theorem dX13_trail_1 : decode cX13_trail 1 = .ok (.istore_n 1, 1) := by decide +kernel
theorem dX13_trail_2 : decode cX13_trail 2 = .ok (.iconst 0, 1) := by decide +kernel
theorem dX13_trail_3 : decode cX13_trail 3 = .ok (.istore_n 2, 1) := by decide +kernel
theorem dX13_trail_4 : decode cX13_trail 4 = .ok (.iload_n 2, 1) := by decide +kernel
theorem dX13_trail_5 : decode cX13_trail 5 = .ok (.aload_n 0, 1) := by decide +kernel
theorem dX13_trail_6 : decode cX13_trail 6 = .ok (.getfield 91, 3) := by decide +kernel
theorem dX13_trail_9 : decode cX13_trail 9 = .ok (.if_icmp .ge 18, 3) := by decide +kernel
theorem dX13_trail_12 : decode cX13_trail 12 = .ok (.iload_n 1, 1) := by decide +kernel
theorem dX13_trail_13 : decode cX13_trail 13 = .ok (.aload_n 0, 1) := by decide +kernel
theorem dX13_trail_14 : decode cX13_trail 14 = .ok (.getfield 22, 3) := by decide +kernel
theorem dX13_trail_17 : decode cX13_trail 17 = .ok (.iload_n 2, 1) := by decide +kernel
theorem dX13_trail_18 : decode cX13_trail 18 = .ok (.iaload, 1) := by decide +kernel
theorem dX13_trail_19 : decode cX13_trail 19 = .ok (.iadd, 1) := by decide +kernel
theorem dX13_trail_20 : decode cX13_trail 20 = .ok (.istore_n 1, 1) := by decide +kernel
theorem dX13_trail_21 : decode cX13_trail 21 = .ok (.iinc 2 1, 3) := by decide +kernel
theorem dX13_trail_24 : decode cX13_trail 24 = .ok (.goto (-20), 3) := by decide +kernel
theorem dX13_trail_27 : decode cX13_trail 27 = .ok (.iload_n 1, 1) := by decide +kernel
theorem dX13_trail_28 : decode cX13_trail 28 = .ok (.ireturn, 1) := by decide +kernel
theorem dX13_valueOf_0 : decode cX13_valueOf 0 = .ok (.iload_n 2, 1) := by decide +kernel
theorem dX13_valueOf_1 : decode cX13_valueOf 1 = .ok (.tableswitch 144 0 9 #[55, 60, 65, 75, 80, 93, 98, 104, 119, 127], 55) := by decide +kernel
theorem dX13_valueOf_56 : decode cX13_valueOf 56 = .ok (.aload_n 1, 1) := by decide +kernel
theorem dX13_valueOf_57 : decode cX13_valueOf 57 = .ok (.getfield 310, 3) := by decide +kernel
theorem dX13_valueOf_60 : decode cX13_valueOf 60 = .ok (.ireturn, 1) := by decide +kernel
theorem dX13_valueOf_61 : decode cX13_valueOf 61 = .ok (.aload_n 1, 1) := by decide +kernel
theorem dX13_valueOf_62 : decode cX13_valueOf 62 = .ok (.getfield 312, 3) := by decide +kernel
theorem dX13_valueOf_65 : decode cX13_valueOf 65 = .ok (.ireturn, 1) := by decide +kernel
theorem dX13_valueOf_66 : decode cX13_valueOf 66 = .ok (.aload_n 1, 1) := by decide +kernel
theorem dX13_valueOf_67 : decode cX13_valueOf 67 = .ok (.getfield 314, 3) := by decide +kernel
theorem dX13_valueOf_70 : decode cX13_valueOf 70 = .ok (.aload_n 1, 1) := by decide +kernel
theorem dX13_valueOf_71 : decode cX13_valueOf 71 = .ok (.invokevirtual 317, 3) := by decide +kernel
theorem dX13_valueOf_74 : decode cX13_valueOf 74 = .ok (.iaload, 1) := by decide +kernel
theorem dX13_valueOf_75 : decode cX13_valueOf 75 = .ok (.ireturn, 1) := by decide +kernel
theorem dX13_valueOf_76 : decode cX13_valueOf 76 = .ok (.aload_n 1, 1) := by decide +kernel
theorem dX13_valueOf_77 : decode cX13_valueOf 77 = .ok (.invokevirtual 320, 3) := by decide +kernel
theorem dX13_valueOf_80 : decode cX13_valueOf 80 = .ok (.ireturn, 1) := by decide +kernel
theorem dX13_valueOf_81 : decode cX13_valueOf 81 = .ok (.aload_n 0, 1) := by decide +kernel
theorem dX13_valueOf_82 : decode cX13_valueOf 82 = .ok (.getfield 29, 3) := by decide +kernel
theorem dX13_valueOf_85 : decode cX13_valueOf 85 = .ok (.iload_n 3, 1) := by decide +kernel
theorem dX13_valueOf_86 : decode cX13_valueOf 86 = .ok (.bipush 6, 2) := by decide +kernel
theorem dX13_valueOf_88 : decode cX13_valueOf 88 = .ok (.idiv, 1) := by decide +kernel
theorem dX13_valueOf_89 : decode cX13_valueOf 89 = .ok (.iaload, 1) := by decide +kernel
theorem dX13_valueOf_90 : decode cX13_valueOf 90 = .ok (.bipush 100, 2) := by decide +kernel
theorem dX13_valueOf_92 : decode cX13_valueOf 92 = .ok (.iadd, 1) := by decide +kernel
theorem dX13_valueOf_93 : decode cX13_valueOf 93 = .ok (.ireturn, 1) := by decide +kernel
theorem dX13_valueOf_94 : decode cX13_valueOf 94 = .ok (.aload_n 1, 1) := by decide +kernel
theorem dX13_valueOf_95 : decode cX13_valueOf 95 = .ok (.getfield 322, 3) := by decide +kernel
theorem dX13_valueOf_98 : decode cX13_valueOf 98 = .ok (.ireturn, 1) := by decide +kernel
theorem dX13_valueOf_99 : decode cX13_valueOf 99 = .ok (.aload_n 1, 1) := by decide +kernel
theorem dX13_valueOf_100 : decode cX13_valueOf 100 = .ok (.iconst 0, 1) := by decide +kernel
theorem dX13_valueOf_101 : decode cX13_valueOf 101 = .ok (.invokevirtual 324, 3) := by decide +kernel
theorem dX13_valueOf_104 : decode cX13_valueOf 104 = .ok (.ireturn, 1) := by decide +kernel
theorem dX13_valueOf_105 : decode cX13_valueOf 105 = .ok (.aload_n 0, 1) := by decide +kernel
theorem dX13_valueOf_106 : decode cX13_valueOf 106 = .ok (.getfield 22, 3) := by decide +kernel
theorem dX13_valueOf_109 : decode cX13_valueOf 109 = .ok (.aload_n 1, 1) := by decide +kernel
theorem dX13_valueOf_110 : decode cX13_valueOf 110 = .ok (.getfield 307, 3) := by decide +kernel
theorem dX13_valueOf_113 : decode cX13_valueOf 113 = .ok (.iaload, 1) := by decide +kernel
theorem dX13_valueOf_114 : decode cX13_valueOf 114 = .ok (.aload_n 1, 1) := by decide +kernel
theorem dX13_valueOf_115 : decode cX13_valueOf 115 = .ok (.getfield 304, 3) := by decide +kernel
theorem dX13_valueOf_118 : decode cX13_valueOf 118 = .ok (.isub, 1) := by decide +kernel
theorem dX13_valueOf_119 : decode cX13_valueOf 119 = .ok (.ireturn, 1) := by decide +kernel
theorem dX13_valueOf_120 : decode cX13_valueOf 120 = .ok (.iload_n 3, 1) := by decide +kernel
theorem dX13_valueOf_121 : decode cX13_valueOf 121 = .ok (.bipush 6, 2) := by decide +kernel
theorem dX13_valueOf_123 : decode cX13_valueOf 123 = .ok (.idiv, 1) := by decide +kernel
theorem dX13_valueOf_124 : decode cX13_valueOf 124 = .ok (.bipush 24, 2) := by decide +kernel
theorem dX13_valueOf_126 : decode cX13_valueOf 126 = .ok (.irem, 1) := by decide +kernel
theorem dX13_valueOf_127 : decode cX13_valueOf 127 = .ok (.ireturn, 1) := by decide +kernel
theorem dX13_valueOf_128 : decode cX13_valueOf 128 = .ok (.aload_n 1, 1) := by decide +kernel
theorem dX13_valueOf_129 : decode cX13_valueOf 129 = .ok (.getfield 304, 3) := by decide +kernel
theorem dX13_valueOf_132 : decode cX13_valueOf 132 = .ok (.ifCond .ne 10, 3) := by decide +kernel
theorem dX13_valueOf_135 : decode cX13_valueOf 135 = .ok (.aload_n 1, 1) := by decide +kernel
theorem dX13_valueOf_136 : decode cX13_valueOf 136 = .ok (.getfield 307, 3) := by decide +kernel
theorem dX13_valueOf_139 : decode cX13_valueOf 139 = .ok (.goto 5, 3) := by decide +kernel
theorem dX13_valueOf_142 : decode cX13_valueOf 142 = .ok (.bipush 99, 2) := by decide +kernel
theorem dX13_valueOf_144 : decode cX13_valueOf 144 = .ok (.ireturn, 1) := by decide +kernel
theorem dX13_valueOf_145 : decode cX13_valueOf 145 = .ok (.aload_n 1, 1) := by decide +kernel
theorem dX13_valueOf_146 : decode cX13_valueOf 146 = .ok (.getfield 327, 3) := by decide +kernel
theorem dX13_valueOf_149 : decode cX13_valueOf 149 = .ok (.ireturn, 1) := by decide +kernel
theorem dX13_holds_0 : decode cX13_holds 0 = .ok (.iconst 1, 1) := by decide +kernel
theorem dX13_holds_1 : decode cX13_holds 1 = .ok (.istore 4, 2) := by decide +kernel
theorem dX13_holds_3 : decode cX13_holds 3 = .ok (.iconst 4, 1) := by decide +kernel
theorem dX13_holds_4 : decode cX13_holds 4 = .ok (.iload_n 2, 1) := by decide +kernel
theorem dX13_holds_5 : decode cX13_holds 5 = .ok (.imul, 1) := by decide +kernel
theorem dX13_holds_6 : decode cX13_holds 6 = .ok (.istore 5, 2) := by decide +kernel
theorem dX13_holds_8 : decode cX13_holds 8 = .ok (.iload 5, 2) := by decide +kernel
theorem dX13_holds_10 : decode cX13_holds 10 = .ok (.iconst 4, 1) := by decide +kernel
theorem dX13_holds_11 : decode cX13_holds 11 = .ok (.iload_n 2, 1) := by decide +kernel
theorem dX13_holds_12 : decode cX13_holds 12 = .ok (.imul, 1) := by decide +kernel
theorem dX13_holds_13 : decode cX13_holds 13 = .ok (.aload_n 0, 1) := by decide +kernel
theorem dX13_holds_14 : decode cX13_holds 14 = .ok (.getfield 75, 3) := by decide +kernel
theorem dX13_holds_17 : decode cX13_holds 17 = .ok (.iload_n 2, 1) := by decide +kernel
theorem dX13_holds_18 : decode cX13_holds 18 = .ok (.iaload, 1) := by decide +kernel
theorem dX13_holds_19 : decode cX13_holds 19 = .ok (.iadd, 1) := by decide +kernel
theorem dX13_holds_20 : decode cX13_holds 20 = .ok (.if_icmp .ge 73, 3) := by decide +kernel
theorem dX13_holds_23 : decode cX13_holds 23 = .ok (.aload_n 0, 1) := by decide +kernel
theorem dX13_holds_24 : decode cX13_holds 24 = .ok (.aload_n 1, 1) := by decide +kernel
theorem dX13_holds_25 : decode cX13_holds 25 = .ok (.aload_n 0, 1) := by decide +kernel
theorem dX13_holds_26 : decode cX13_holds 26 = .ok (.getfield 78, 3) := by decide +kernel
theorem dX13_holds_29 : decode cX13_holds 29 = .ok (.iload 5, 2) := by decide +kernel
theorem dX13_holds_31 : decode cX13_holds 31 = .ok (.iaload, 1) := by decide +kernel
theorem dX13_holds_32 : decode cX13_holds 32 = .ok (.iload_n 3, 1) := by decide +kernel
theorem dX13_holds_33 : decode cX13_holds 33 = .ok (.invokevirtual 329, 3) := by decide +kernel
theorem dX13_holds_36 : decode cX13_holds 36 = .ok (.istore 6, 2) := by decide +kernel
theorem dX13_holds_38 : decode cX13_holds 38 = .ok (.iload 4, 2) := by decide +kernel
theorem dX13_holds_40 : decode cX13_holds 40 = .ok (.ifCond .eq 44, 3) := by decide +kernel
theorem dX13_holds_43 : decode cX13_holds 43 = .ok (.aload_n 0, 1) := by decide +kernel
theorem dX13_holds_44 : decode cX13_holds 44 = .ok (.getfield 84, 3) := by decide +kernel
theorem dX13_holds_47 : decode cX13_holds 47 = .ok (.iload 5, 2) := by decide +kernel
theorem dX13_holds_49 : decode cX13_holds 49 = .ok (.baload, 1) := by decide +kernel
theorem dX13_holds_50 : decode cX13_holds 50 = .ok (.ifCond .eq 18, 3) := by decide +kernel
theorem dX13_holds_53 : decode cX13_holds 53 = .ok (.iload 6, 2) := by decide +kernel
theorem dX13_holds_55 : decode cX13_holds 55 = .ok (.aload_n 0, 1) := by decide +kernel
theorem dX13_holds_56 : decode cX13_holds 56 = .ok (.getfield 81, 3) := by decide +kernel
theorem dX13_holds_59 : decode cX13_holds 59 = .ok (.iload 5, 2) := by decide +kernel
theorem dX13_holds_61 : decode cX13_holds 61 = .ok (.iaload, 1) := by decide +kernel
theorem dX13_holds_62 : decode cX13_holds 62 = .ok (.if_icmp .ge 22, 3) := by decide +kernel
theorem dX13_holds_65 : decode cX13_holds 65 = .ok (.goto 15, 3) := by decide +kernel
theorem dX13_holds_68 : decode cX13_holds 68 = .ok (.iload 6, 2) := by decide +kernel
theorem dX13_holds_70 : decode cX13_holds 70 = .ok (.aload_n 0, 1) := by decide +kernel
theorem dX13_holds_71 : decode cX13_holds 71 = .ok (.getfield 81, 3) := by decide +kernel
theorem dX13_holds_74 : decode cX13_holds 74 = .ok (.iload 5, 2) := by decide +kernel
theorem dX13_holds_76 : decode cX13_holds 76 = .ok (.iaload, 1) := by decide +kernel
theorem dX13_holds_77 : decode cX13_holds 77 = .ok (.if_icmp .le 7, 3) := by decide +kernel
theorem dX13_holds_80 : decode cX13_holds 80 = .ok (.iconst 1, 1) := by decide +kernel
theorem dX13_holds_81 : decode cX13_holds 81 = .ok (.goto 4, 3) := by decide +kernel
theorem dX13_holds_84 : decode cX13_holds 84 = .ok (.iconst 0, 1) := by decide +kernel
theorem dX13_holds_85 : decode cX13_holds 85 = .ok (.istore 4, 2) := by decide +kernel
theorem dX13_holds_87 : decode cX13_holds 87 = .ok (.iinc 5 1, 3) := by decide +kernel
theorem dX13_holds_90 : decode cX13_holds 90 = .ok (.goto (-82), 3) := by decide +kernel
theorem dX13_holds_93 : decode cX13_holds 93 = .ok (.iload 4, 2) := by decide +kernel
theorem dX13_holds_95 : decode cX13_holds 95 = .ok (.ireturn, 1) := by decide +kernel
theorem dX13_leads_0 : decode cX13_leads 0 = .ok (.aload_n 1, 1) := by decide +kernel
theorem dX13_leads_1 : decode cX13_leads 1 = .ok (.getfield 289, 3) := by decide +kernel
theorem dX13_leads_4 : decode cX13_leads 4 = .ok (.ifCond .ne 23, 3) := by decide +kernel
theorem dX13_leads_7 : decode cX13_leads 7 = .ok (.aload_n 1, 1) := by decide +kernel
theorem dX13_leads_8 : decode cX13_leads 8 = .ok (.getfield 333, 3) := by decide +kernel
theorem dX13_leads_11 : decode cX13_leads 11 = .ok (.iload_n 2, 1) := by decide +kernel
theorem dX13_leads_12 : decode cX13_leads 12 = .ok (.if_icmp .ne 15, 3) := by decide +kernel
theorem dX13_leads_15 : decode cX13_leads 15 = .ok (.aload_n 1, 1) := by decide +kernel
theorem dX13_leads_16 : decode cX13_leads 16 = .ok (.iconst 1, 1) := by decide +kernel
theorem dX13_leads_17 : decode cX13_leads 17 = .ok (.putfield 289, 3) := by decide +kernel
theorem dX13_leads_20 : decode cX13_leads 20 = .ok (.aload_n 1, 1) := by decide +kernel
theorem dX13_leads_21 : decode cX13_leads 21 = .ok (.getfield 335, 3) := by decide +kernel
theorem dX13_leads_24 : decode cX13_leads 24 = .ok (.iconst 0, 1) := by decide +kernel
theorem dX13_leads_25 : decode cX13_leads 25 = .ok (.iload_n 2, 1) := by decide +kernel
theorem dX13_leads_26 : decode cX13_leads 26 = .ok (.iastore, 1) := by decide +kernel
theorem dX13_leads_27 : decode cX13_leads 27 = .ok (.aload_n 1, 1) := by decide +kernel
theorem dX13_leads_28 : decode cX13_leads 28 = .ok (.getfield 289, 3) := by decide +kernel
theorem dX13_leads_31 : decode cX13_leads 31 = .ok (.iconst 1, 1) := by decide +kernel
theorem dX13_leads_32 : decode cX13_leads 32 = .ok (.if_icmp .eq 4, 3) := by decide +kernel
theorem dX13_leads_35 : decode cX13_leads 35 = .ok (.return_, 1) := by decide +kernel
theorem dX13_leads_36 : decode cX13_leads 36 = .ok (.iconst 0, 1) := by decide +kernel
theorem dX13_leads_37 : decode cX13_leads 37 = .ok (.istore_n 3, 1) := by decide +kernel
theorem dX13_leads_38 : decode cX13_leads 38 = .ok (.iload_n 3, 1) := by decide +kernel
theorem dX13_leads_39 : decode cX13_leads 39 = .ok (.aload_n 0, 1) := by decide +kernel
theorem dX13_leads_40 : decode cX13_leads 40 = .ok (.getfield 69, 3) := by decide +kernel
theorem dX13_leads_43 : decode cX13_leads 43 = .ok (.aload_n 1, 1) := by decide +kernel
theorem dX13_leads_44 : decode cX13_leads 44 = .ok (.getfield 292, 3) := by decide +kernel
theorem dX13_leads_47 : decode cX13_leads 47 = .ok (.iaload, 1) := by decide +kernel
theorem dX13_leads_48 : decode cX13_leads 48 = .ok (.if_icmp .ge 27, 3) := by decide +kernel
theorem dX13_leads_51 : decode cX13_leads 51 = .ok (.aload_n 0, 1) := by decide +kernel
theorem dX13_leads_52 : decode cX13_leads 52 = .ok (.aload_n 1, 1) := by decide +kernel
theorem dX13_leads_53 : decode cX13_leads 53 = .ok (.bipush 12, 2) := by decide +kernel
theorem dX13_leads_55 : decode cX13_leads 55 = .ok (.aload_n 1, 1) := by decide +kernel
theorem dX13_leads_56 : decode cX13_leads 56 = .ok (.getfield 292, 3) := by decide +kernel
theorem dX13_leads_59 : decode cX13_leads 59 = .ok (.imul, 1) := by decide +kernel
theorem dX13_leads_60 : decode cX13_leads 60 = .ok (.iload_n 3, 1) := by decide +kernel
theorem dX13_leads_61 : decode cX13_leads 61 = .ok (.iadd, 1) := by decide +kernel
theorem dX13_leads_62 : decode cX13_leads 62 = .ok (.iload_n 2, 1) := by decide +kernel
theorem dX13_leads_63 : decode cX13_leads 63 = .ok (.invokevirtual 338, 3) := by decide +kernel
theorem dX13_leads_66 : decode cX13_leads 66 = .ok (.ifCond .ne 9, 3) := by decide +kernel
theorem dX13_leads_69 : decode cX13_leads 69 = .ok (.iinc 3 1, 3) := by decide +kernel
theorem dX13_leads_72 : decode cX13_leads 72 = .ok (.goto (-34), 3) := by decide +kernel
theorem dX13_leads_75 : decode cX13_leads 75 = .ok (.iload_n 3, 1) := by decide +kernel
theorem dX13_leads_76 : decode cX13_leads 76 = .ok (.aload_n 0, 1) := by decide +kernel
theorem dX13_leads_77 : decode cX13_leads 77 = .ok (.getfield 69, 3) := by decide +kernel
theorem dX13_leads_80 : decode cX13_leads 80 = .ok (.aload_n 1, 1) := by decide +kernel
theorem dX13_leads_81 : decode cX13_leads 81 = .ok (.getfield 292, 3) := by decide +kernel
theorem dX13_leads_84 : decode cX13_leads 84 = .ok (.iaload, 1) := by decide +kernel
theorem dX13_leads_85 : decode cX13_leads 85 = .ok (.if_icmp .ge 7, 3) := by decide +kernel
theorem dX13_leads_88 : decode cX13_leads 88 = .ok (.iconst 1, 1) := by decide +kernel
theorem dX13_leads_89 : decode cX13_leads 89 = .ok (.goto 4, 3) := by decide +kernel
theorem dX13_leads_92 : decode cX13_leads 92 = .ok (.iconst 0, 1) := by decide +kernel
theorem dX13_leads_93 : decode cX13_leads 93 = .ok (.istore 4, 2) := by decide +kernel
theorem dX13_leads_95 : decode cX13_leads 95 = .ok (.aload_n 1, 1) := by decide +kernel
theorem dX13_leads_96 : decode cX13_leads 96 = .ok (.iload 4, 2) := by decide +kernel
theorem dX13_leads_98 : decode cX13_leads 98 = .ok (.ifCond .eq 7, 3) := by decide +kernel
theorem dX13_leads_101 : decode cX13_leads 101 = .ok (.iload_n 3, 1) := by decide +kernel
theorem dX13_leads_102 : decode cX13_leads 102 = .ok (.goto 5, 3) := by decide +kernel
theorem dX13_leads_105 : decode cX13_leads 105 = .ok (.bipush 100, 2) := by decide +kernel
theorem dX13_leads_107 : decode cX13_leads 107 = .ok (.putfield 342, 3) := by decide +kernel
theorem dX13_leads_110 : decode cX13_leads 110 = .ok (.iload 4, 2) := by decide +kernel
theorem dX13_leads_112 : decode cX13_leads 112 = .ok (.ifCond .eq 20, 3) := by decide +kernel
theorem dX13_leads_115 : decode cX13_leads 115 = .ok (.aload_n 0, 1) := by decide +kernel
theorem dX13_leads_116 : decode cX13_leads 116 = .ok (.getfield 72, 3) := by decide +kernel
theorem dX13_leads_119 : decode cX13_leads 119 = .ok (.bipush 12, 2) := by decide +kernel
theorem dX13_leads_121 : decode cX13_leads 121 = .ok (.aload_n 1, 1) := by decide +kernel
theorem dX13_leads_122 : decode cX13_leads 122 = .ok (.getfield 292, 3) := by decide +kernel
theorem dX13_leads_125 : decode cX13_leads 125 = .ok (.imul, 1) := by decide +kernel
theorem dX13_leads_126 : decode cX13_leads 126 = .ok (.iload_n 3, 1) := by decide +kernel
theorem dX13_leads_127 : decode cX13_leads 127 = .ok (.iadd, 1) := by decide +kernel
theorem dX13_leads_128 : decode cX13_leads 128 = .ok (.iaload, 1) := by decide +kernel
theorem dX13_leads_129 : decode cX13_leads 129 = .ok (.goto 4, 3) := by decide +kernel
theorem dX13_leads_132 : decode cX13_leads 132 = .ok (.iconst 0, 1) := by decide +kernel
theorem dX13_leads_133 : decode cX13_leads 133 = .ok (.istore 5, 2) := by decide +kernel
theorem dX13_leads_135 : decode cX13_leads 135 = .ok (.aload_n 0, 1) := by decide +kernel
theorem dX13_leads_136 : decode cX13_leads 136 = .ok (.getfield 29, 3) := by decide +kernel
theorem dX13_leads_139 : decode cX13_leads 139 = .ok (.iload_n 2, 1) := by decide +kernel
theorem dX13_leads_140 : decode cX13_leads 140 = .ok (.bipush 6, 2) := by decide +kernel
theorem dX13_leads_142 : decode cX13_leads 142 = .ok (.idiv, 1) := by decide +kernel
theorem dX13_leads_143 : decode cX13_leads 143 = .ok (.iaload, 1) := by decide +kernel
theorem dX13_leads_144 : decode cX13_leads 144 = .ok (.istore 6, 2) := by decide +kernel
theorem dX13_leads_146 : decode cX13_leads 146 = .ok (.iload 5, 2) := by decide +kernel
theorem dX13_leads_148 : decode cX13_leads 148 = .ok (.ifCond .ne 12, 3) := by decide +kernel
theorem dX13_leads_151 : decode cX13_leads 151 = .ok (.aload_n 0, 1) := by decide +kernel
theorem dX13_leads_152 : decode cX13_leads 152 = .ok (.aload_n 1, 1) := by decide +kernel
theorem dX13_leads_153 : decode cX13_leads 153 = .ok (.iload_n 2, 1) := by decide +kernel
theorem dX13_leads_154 : decode cX13_leads 154 = .ok (.iload 6, 2) := by decide +kernel
theorem dX13_leads_156 : decode cX13_leads 156 = .ok (.invokevirtual 345, 3) := by decide +kernel
theorem dX13_leads_159 : decode cX13_leads 159 = .ok (.return_, 1) := by decide +kernel
theorem dX13_leads_160 : decode cX13_leads 160 = .ok (.iload 5, 2) := by decide +kernel
theorem dX13_leads_162 : decode cX13_leads 162 = .ok (.iconst 2, 1) := by decide +kernel
theorem dX13_leads_163 : decode cX13_leads 163 = .ok (.if_icmp .ne 29, 3) := by decide +kernel
theorem dX13_leads_166 : decode cX13_leads 166 = .ok (.aload_n 1, 1) := by decide +kernel
theorem dX13_leads_167 : decode cX13_leads 167 = .ok (.getfield 322, 3) := by decide +kernel
theorem dX13_leads_170 : decode cX13_leads 170 = .ok (.ifCond .le 22, 3) := by decide +kernel
theorem dX13_leads_173 : decode cX13_leads 173 = .ok (.aload_n 1, 1) := by decide +kernel
theorem dX13_leads_174 : decode cX13_leads 174 = .ok (.dup, 1) := by decide +kernel
theorem dX13_leads_175 : decode cX13_leads 175 = .ok (.getfield 322, 3) := by decide +kernel
theorem dX13_leads_178 : decode cX13_leads 178 = .ok (.iconst 1, 1) := by decide +kernel
theorem dX13_leads_179 : decode cX13_leads 179 = .ok (.isub, 1) := by decide +kernel
theorem dX13_leads_180 : decode cX13_leads 180 = .ok (.putfield 322, 3) := by decide +kernel
theorem dX13_leads_183 : decode cX13_leads 183 = .ok (.aload_n 1, 1) := by decide +kernel
theorem dX13_leads_184 : decode cX13_leads 184 = .ok (.bipush 120, 2) := by decide +kernel
theorem dX13_leads_186 : decode cX13_leads 186 = .ok (.invokevirtual 349, 3) := by decide +kernel
theorem dX13_leads_189 : decode cX13_leads 189 = .ok (.goto 50, 3) := by decide +kernel
theorem dX13_leads_192 : decode cX13_leads 192 = .ok (.iload 5, 2) := by decide +kernel
theorem dX13_leads_194 : decode cX13_leads 194 = .ok (.iconst 3, 1) := by decide +kernel
theorem dX13_leads_195 : decode cX13_leads 195 = .ok (.if_icmp .ne 44, 3) := by decide +kernel
theorem dX13_leads_198 : decode cX13_leads 198 = .ok (.aload_n 1, 1) := by decide +kernel
theorem dX13_leads_199 : decode cX13_leads 199 = .ok (.getfield 304, 3) := by decide +kernel
theorem dX13_leads_202 : decode cX13_leads 202 = .ok (.ifCond .ne 37, 3) := by decide +kernel
theorem dX13_leads_205 : decode cX13_leads 205 = .ok (.aload_n 1, 1) := by decide +kernel
theorem dX13_leads_206 : decode cX13_leads 206 = .ok (.iconst 0, 1) := by decide +kernel
theorem dX13_leads_207 : decode cX13_leads 207 = .ok (.invokevirtual 324, 3) := by decide +kernel
theorem dX13_leads_210 : decode cX13_leads 210 = .ok (.iconst 1, 1) := by decide +kernel
theorem dX13_leads_211 : decode cX13_leads 211 = .ok (.if_icmp .le 28, 3) := by decide +kernel
theorem dX13_leads_214 : decode cX13_leads 214 = .ok (.aload_n 1, 1) := by decide +kernel
theorem dX13_leads_215 : decode cX13_leads 215 = .ok (.invokevirtual 317, 3) := by decide +kernel
theorem dX13_leads_218 : decode cX13_leads 218 = .ok (.istore 7, 2) := by decide +kernel
theorem dX13_leads_220 : decode cX13_leads 220 = .ok (.aload_n 1, 1) := by decide +kernel
theorem dX13_leads_221 : decode cX13_leads 221 = .ok (.getfield 352, 3) := by decide +kernel
theorem dX13_leads_224 : decode cX13_leads 224 = .ok (.iload 7, 2) := by decide +kernel
theorem dX13_leads_226 : decode cX13_leads 226 = .ok (.iconst 2, 1) := by decide +kernel
theorem dX13_leads_227 : decode cX13_leads 227 = .ok (.iastore, 1) := by decide +kernel
theorem dX13_leads_228 : decode cX13_leads 228 = .ok (.aload_n 1, 1) := by decide +kernel
theorem dX13_leads_229 : decode cX13_leads 229 = .ok (.getfield 355, 3) := by decide +kernel
theorem dX13_leads_232 : decode cX13_leads 232 = .ok (.iload 7, 2) := by decide +kernel
theorem dX13_leads_234 : decode cX13_leads 234 = .ok (.aload_n 1, 1) := by decide +kernel
theorem dX13_leads_235 : decode cX13_leads 235 = .ok (.getfield 307, 3) := by decide +kernel
theorem dX13_leads_238 : decode cX13_leads 238 = .ok (.iastore, 1) := by decide +kernel
theorem dX13_leads_239 : decode cX13_leads 239 = .ok (.aload_n 1, 1) := by decide +kernel
theorem dX13_leads_240 : decode cX13_leads 240 = .ok (.iload 6, 2) := by decide +kernel
theorem dX13_leads_242 : decode cX13_leads 242 = .ok (.bipush (-30), 2) := by decide +kernel
theorem dX13_leads_244 : decode cX13_leads 244 = .ok (.if_icmp .ge 8, 3) := by decide +kernel
theorem dX13_leads_247 : decode cX13_leads 247 = .ok (.bipush 10, 2) := by decide +kernel
theorem dX13_leads_249 : decode cX13_leads 249 = .ok (.goto 17, 3) := by decide +kernel
theorem dX13_leads_252 : decode cX13_leads 252 = .ok (.iload 6, 2) := by decide +kernel
theorem dX13_leads_254 : decode cX13_leads 254 = .ok (.bipush (-5), 2) := by decide +kernel
theorem dX13_leads_256 : decode cX13_leads 256 = .ok (.if_icmp .le 8, 3) := by decide +kernel
theorem dX13_leads_259 : decode cX13_leads 259 = .ok (.bipush 12, 2) := by decide +kernel
theorem dX13_leads_261 : decode cX13_leads 261 = .ok (.goto 5, 3) := by decide +kernel
theorem dX13_leads_264 : decode cX13_leads 264 = .ok (.bipush 15, 2) := by decide +kernel
theorem dX13_leads_266 : decode cX13_leads 266 = .ok (.invokevirtual 349, 3) := by decide +kernel
theorem dX13_leads_269 : decode cX13_leads 269 = .ok (.aload_n 1, 1) := by decide +kernel
theorem dX13_leads_270 : decode cX13_leads 270 = .ok (.dup, 1) := by decide +kernel
theorem dX13_leads_271 : decode cX13_leads 271 = .ok (.getfield 312, 3) := by decide +kernel
theorem dX13_leads_274 : decode cX13_leads 274 = .ok (.iconst 1, 1) := by decide +kernel
theorem dX13_leads_275 : decode cX13_leads 275 = .ok (.iadd, 1) := by decide +kernel
theorem dX13_leads_276 : decode cX13_leads 276 = .ok (.putfield 312, 3) := by decide +kernel
theorem dX13_leads_279 : decode cX13_leads 279 = .ok (.aload_n 1, 1) := by decide +kernel
theorem dX13_leads_280 : decode cX13_leads 280 = .ok (.iconst 0, 1) := by decide +kernel
theorem dX13_leads_281 : decode cX13_leads 281 = .ok (.putfield 310, 3) := by decide +kernel
theorem dX13_leads_284 : decode cX13_leads 284 = .ok (.return_, 1) := by decide +kernel
theorem dX13_goes_0 : decode cX13_goes 0 = .ok (.aload_n 1, 1) := by decide +kernel
theorem dX13_goes_1 : decode cX13_goes 1 = .ok (.getfield 304, 3) := by decide +kernel
theorem dX13_goes_4 : decode cX13_goes 4 = .ok (.ifCond .ne 26, 3) := by decide +kernel
theorem dX13_goes_7 : decode cX13_goes 7 = .ok (.aload_n 1, 1) := by decide +kernel
theorem dX13_goes_8 : decode cX13_goes 8 = .ok (.getfield 358, 3) := by decide +kernel
theorem dX13_goes_11 : decode cX13_goes 11 = .ok (.aload_n 1, 1) := by decide +kernel
theorem dX13_goes_12 : decode cX13_goes 12 = .ok (.getfield 307, 3) := by decide +kernel
theorem dX13_goes_15 : decode cX13_goes 15 = .ok (.iaload, 1) := by decide +kernel
theorem dX13_goes_16 : decode cX13_goes 16 = .ok (.iconst (-1), 1) := by decide +kernel
theorem dX13_goes_17 : decode cX13_goes 17 = .ok (.if_icmp .ne 13, 3) := by decide +kernel
theorem dX13_goes_20 : decode cX13_goes 20 = .ok (.aload_n 1, 1) := by decide +kernel
theorem dX13_goes_21 : decode cX13_goes 21 = .ok (.getfield 358, 3) := by decide +kernel
theorem dX13_goes_24 : decode cX13_goes 24 = .ok (.aload_n 1, 1) := by decide +kernel
theorem dX13_goes_25 : decode cX13_goes 25 = .ok (.getfield 307, 3) := by decide +kernel
theorem dX13_goes_28 : decode cX13_goes 28 = .ok (.iload_n 2, 1) := by decide +kernel
theorem dX13_goes_29 : decode cX13_goes 29 = .ok (.iastore, 1) := by decide +kernel
theorem dX13_goes_30 : decode cX13_goes 30 = .ok (.aload_n 1, 1) := by decide +kernel
theorem dX13_goes_31 : decode cX13_goes 31 = .ok (.dup, 1) := by decide +kernel
theorem dX13_goes_32 : decode cX13_goes 32 = .ok (.getfield 310, 3) := by decide +kernel
theorem dX13_goes_35 : decode cX13_goes 35 = .ok (.iconst 1, 1) := by decide +kernel
theorem dX13_goes_36 : decode cX13_goes 36 = .ok (.iadd, 1) := by decide +kernel
theorem dX13_goes_37 : decode cX13_goes 37 = .ok (.putfield 310, 3) := by decide +kernel
theorem dX13_goes_40 : decode cX13_goes 40 = .ok (.aload_n 1, 1) := by decide +kernel
theorem dX13_goes_41 : decode cX13_goes 41 = .ok (.iconst 0, 1) := by decide +kernel
theorem dX13_goes_42 : decode cX13_goes 42 = .ok (.putfield 312, 3) := by decide +kernel
theorem dX13_goes_45 : decode cX13_goes 45 = .ok (.bipush 6, 2) := by decide +kernel
theorem dX13_goes_47 : decode cX13_goes 47 = .ok (.aload_n 1, 1) := by decide +kernel
theorem dX13_goes_48 : decode cX13_goes 48 = .ok (.getfield 327, 3) := by decide +kernel
theorem dX13_goes_51 : decode cX13_goes 51 = .ok (.bipush 40, 2) := by decide +kernel
theorem dX13_goes_53 : decode cX13_goes 53 = .ok (.idiv, 1) := by decide +kernel
theorem dX13_goes_54 : decode cX13_goes 54 = .ok (.iadd, 1) := by decide +kernel
theorem dX13_goes_55 : decode cX13_goes 55 = .ok (.aload_n 0, 1) := by decide +kernel
theorem dX13_goes_56 : decode cX13_goes 56 = .ok (.getfield 26, 3) := by decide +kernel
theorem dX13_goes_59 : decode cX13_goes 59 = .ok (.aload_n 1, 1) := by decide +kernel
theorem dX13_goes_60 : decode cX13_goes 60 = .ok (.getfield 307, 3) := by decide +kernel
theorem dX13_goes_63 : decode cX13_goes 63 = .ok (.iaload, 1) := by decide +kernel
theorem dX13_goes_64 : decode cX13_goes 64 = .ok (.bipush 25, 2) := by decide +kernel
theorem dX13_goes_66 : decode cX13_goes 66 = .ok (.idiv, 1) := by decide +kernel
theorem dX13_goes_67 : decode cX13_goes 67 = .ok (.iadd, 1) := by decide +kernel
theorem dX13_goes_68 : decode cX13_goes 68 = .ok (.iload_n 3, 1) := by decide +kernel
theorem dX13_goes_69 : decode cX13_goes 69 = .ok (.bipush (-10), 2) := by decide +kernel
theorem dX13_goes_71 : decode cX13_goes 71 = .ok (.if_icmp .le 12, 3) := by decide +kernel
theorem dX13_goes_74 : decode cX13_goes 74 = .ok (.iload_n 3, 1) := by decide +kernel
theorem dX13_goes_75 : decode cX13_goes 75 = .ok (.bipush 10, 2) := by decide +kernel
theorem dX13_goes_77 : decode cX13_goes 77 = .ok (.iadd, 1) := by decide +kernel
theorem dX13_goes_78 : decode cX13_goes 78 = .ok (.iconst 3, 1) := by decide +kernel
theorem dX13_goes_79 : decode cX13_goes 79 = .ok (.idiv, 1) := by decide +kernel
theorem dX13_goes_80 : decode cX13_goes 80 = .ok (.goto 4, 3) := by decide +kernel
theorem dX13_goes_83 : decode cX13_goes 83 = .ok (.iconst 0, 1) := by decide +kernel
theorem dX13_goes_84 : decode cX13_goes 84 = .ok (.iadd, 1) := by decide +kernel
theorem dX13_goes_85 : decode cX13_goes 85 = .ok (.istore 4, 2) := by decide +kernel
theorem dX13_goes_87 : decode cX13_goes 87 = .ok (.iconst 0, 1) := by decide +kernel
theorem dX13_goes_88 : decode cX13_goes 88 = .ok (.istore 5, 2) := by decide +kernel
theorem dX13_goes_90 : decode cX13_goes 90 = .ok (.iload 5, 2) := by decide +kernel
theorem dX13_goes_92 : decode cX13_goes 92 = .ok (.aload_n 1, 1) := by decide +kernel
theorem dX13_goes_93 : decode cX13_goes 93 = .ok (.getfield 361, 3) := by decide +kernel
theorem dX13_goes_96 : decode cX13_goes 96 = .ok (.if_icmp .ge 64, 3) := by decide +kernel
theorem dX13_goes_99 : decode cX13_goes 99 = .ok (.aload_n 1, 1) := by decide +kernel
theorem dX13_goes_100 : decode cX13_goes 100 = .ok (.getfield 352, 3) := by decide +kernel
theorem dX13_goes_103 : decode cX13_goes 103 = .ok (.iload 5, 2) := by decide +kernel
theorem dX13_goes_105 : decode cX13_goes 105 = .ok (.iaload, 1) := by decide +kernel
theorem dX13_goes_106 : decode cX13_goes 106 = .ok (.ifCond .eq 6, 3) := by decide +kernel
theorem dX13_goes_109 : decode cX13_goes 109 = .ok (.goto 45, 3) := by decide +kernel
theorem dX13_goes_112 : decode cX13_goes 112 = .ok (.aload_n 1, 1) := by decide +kernel
theorem dX13_goes_113 : decode cX13_goes 113 = .ok (.getfield 314, 3) := by decide +kernel
theorem dX13_goes_116 : decode cX13_goes 116 = .ok (.iload 5, 2) := by decide +kernel
theorem dX13_goes_118 : decode cX13_goes 118 = .ok (.iconst 0, 1) := by decide +kernel
theorem dX13_goes_119 : decode cX13_goes 119 = .ok (.aload_n 1, 1) := by decide +kernel
theorem dX13_goes_120 : decode cX13_goes 120 = .ok (.getfield 314, 3) := by decide +kernel
theorem dX13_goes_123 : decode cX13_goes 123 = .ok (.iload 5, 2) := by decide +kernel
theorem dX13_goes_125 : decode cX13_goes 125 = .ok (.iaload, 1) := by decide +kernel
theorem dX13_goes_126 : decode cX13_goes 126 = .ok (.iload 4, 2) := by decide +kernel
theorem dX13_goes_128 : decode cX13_goes 128 = .ok (.isub, 1) := by decide +kernel
theorem dX13_goes_129 : decode cX13_goes 129 = .ok (.invokestatic 363, 3) := by decide +kernel
theorem dX13_goes_132 : decode cX13_goes 132 = .ok (.iastore, 1) := by decide +kernel
theorem dX13_goes_133 : decode cX13_goes 133 = .ok (.aload_n 1, 1) := by decide +kernel
theorem dX13_goes_134 : decode cX13_goes 134 = .ok (.getfield 314, 3) := by decide +kernel
theorem dX13_goes_137 : decode cX13_goes 137 = .ok (.iload 5, 2) := by decide +kernel
theorem dX13_goes_139 : decode cX13_goes 139 = .ok (.iaload, 1) := by decide +kernel
theorem dX13_goes_140 : decode cX13_goes 140 = .ok (.ifCond .le 6, 3) := by decide +kernel
theorem dX13_goes_143 : decode cX13_goes 143 = .ok (.goto 11, 3) := by decide +kernel
theorem dX13_goes_146 : decode cX13_goes 146 = .ok (.aload_n 1, 1) := by decide +kernel
theorem dX13_goes_147 : decode cX13_goes 147 = .ok (.getfield 352, 3) := by decide +kernel
theorem dX13_goes_150 : decode cX13_goes 150 = .ok (.iload 5, 2) := by decide +kernel
theorem dX13_goes_152 : decode cX13_goes 152 = .ok (.iconst 1, 1) := by decide +kernel
theorem dX13_goes_153 : decode cX13_goes 153 = .ok (.iastore, 1) := by decide +kernel
theorem dX13_goes_154 : decode cX13_goes 154 = .ok (.iinc 5 1, 3) := by decide +kernel
theorem dX13_goes_157 : decode cX13_goes 157 = .ok (.goto (-67), 3) := by decide +kernel
theorem dX13_goes_160 : decode cX13_goes 160 = .ok (.aload_n 1, 1) := by decide +kernel
theorem dX13_goes_161 : decode cX13_goes 161 = .ok (.aload_n 1, 1) := by decide +kernel
theorem dX13_goes_162 : decode cX13_goes 162 = .ok (.getfield 369, 3) := by decide +kernel
theorem dX13_goes_165 : decode cX13_goes 165 = .ok (.bipush 25, 2) := by decide +kernel
theorem dX13_goes_167 : decode cX13_goes 167 = .ok (.aload_n 1, 1) := by decide +kernel
theorem dX13_goes_168 : decode cX13_goes 168 = .ok (.iconst 1, 1) := by decide +kernel
theorem dX13_goes_169 : decode cX13_goes 169 = .ok (.invokevirtual 324, 3) := by decide +kernel
theorem dX13_goes_172 : decode cX13_goes 172 = .ok (.imul, 1) := by decide +kernel
theorem dX13_goes_173 : decode cX13_goes 173 = .ok (.iadd, 1) := by decide +kernel
theorem dX13_goes_174 : decode cX13_goes 174 = .ok (.putfield 327, 3) := by decide +kernel
theorem dX13_goes_177 : decode cX13_goes 177 = .ok (.aload_n 1, 1) := by decide +kernel
theorem dX13_goes_178 : decode cX13_goes 178 = .ok (.iconst 0, 1) := by decide +kernel
theorem dX13_goes_179 : decode cX13_goes 179 = .ok (.invokevirtual 324, 3) := by decide +kernel
theorem dX13_goes_182 : decode cX13_goes 182 = .ok (.istore 5, 2) := by decide +kernel
theorem dX13_goes_184 : decode cX13_goes 184 = .ok (.iload 5, 2) := by decide +kernel
theorem dX13_goes_186 : decode cX13_goes 186 = .ok (.ifCond .ne 9, 3) := by decide +kernel
theorem dX13_goes_189 : decode cX13_goes 189 = .ok (.aload_n 1, 1) := by decide +kernel
theorem dX13_goes_190 : decode cX13_goes 190 = .ok (.iconst 3, 1) := by decide +kernel
theorem dX13_goes_191 : decode cX13_goes 191 = .ok (.putfield 289, 3) := by decide +kernel
theorem dX13_goes_194 : decode cX13_goes 194 = .ok (.return_, 1) := by decide +kernel
theorem dX13_goes_195 : decode cX13_goes 195 = .ok (.bipush 30, 2) := by decide +kernel
theorem dX13_goes_197 : decode cX13_goes 197 = .ok (.aload_n 1, 1) := by decide +kernel
theorem dX13_goes_198 : decode cX13_goes 198 = .ok (.invokevirtual 320, 3) := by decide +kernel
theorem dX13_goes_201 : decode cX13_goes 201 = .ok (.imul, 1) := by decide +kernel
theorem dX13_goes_202 : decode cX13_goes 202 = .ok (.iload 5, 2) := by decide +kernel
theorem dX13_goes_204 : decode cX13_goes 204 = .ok (.imul, 1) := by decide +kernel
theorem dX13_goes_205 : decode cX13_goes 205 = .ok (.bipush 100, 2) := by decide +kernel
theorem dX13_goes_207 : decode cX13_goes 207 = .ok (.imul, 1) := by decide +kernel
theorem dX13_goes_208 : decode cX13_goes 208 = .ok (.sipush 1000, 3) := by decide +kernel
theorem dX13_goes_211 : decode cX13_goes 211 = .ok (.aload_n 0, 1) := by decide +kernel
theorem dX13_goes_212 : decode cX13_goes 212 = .ok (.getfield 26, 3) := by decide +kernel
theorem dX13_goes_215 : decode cX13_goes 215 = .ok (.aload_n 1, 1) := by decide +kernel
theorem dX13_goes_216 : decode cX13_goes 216 = .ok (.getfield 307, 3) := by decide +kernel
theorem dX13_goes_219 : decode cX13_goes 219 = .ok (.iaload, 1) := by decide +kernel
theorem dX13_goes_220 : decode cX13_goes 220 = .ok (.imul, 1) := by decide +kernel
theorem dX13_goes_221 : decode cX13_goes 221 = .ok (.idiv, 1) := by decide +kernel
theorem dX13_goes_222 : decode cX13_goes 222 = .ok (.bipush 20, 2) := by decide +kernel
theorem dX13_goes_224 : decode cX13_goes 224 = .ok (.imul, 1) := by decide +kernel
theorem dX13_goes_225 : decode cX13_goes 225 = .ok (.bipush 20, 2) := by decide +kernel
theorem dX13_goes_227 : decode cX13_goes 227 = .ok (.iload 5, 2) := by decide +kernel
theorem dX13_goes_229 : decode cX13_goes 229 = .ok (.imul, 1) := by decide +kernel
theorem dX13_goes_230 : decode cX13_goes 230 = .ok (.aload_n 1, 1) := by decide +kernel
theorem dX13_goes_231 : decode cX13_goes 231 = .ok (.getfield 327, 3) := by decide +kernel
theorem dX13_goes_234 : decode cX13_goes 234 = .ok (.iadd, 1) := by decide +kernel
theorem dX13_goes_235 : decode cX13_goes 235 = .ok (.idiv, 1) := by decide +kernel
theorem dX13_goes_236 : decode cX13_goes 236 = .ok (.istore 6, 2) := by decide +kernel
theorem dX13_goes_238 : decode cX13_goes 238 = .ok (.aload_n 1, 1) := by decide +kernel
theorem dX13_goes_239 : decode cX13_goes 239 = .ok (.dup, 1) := by decide +kernel
theorem dX13_goes_240 : decode cX13_goes 240 = .ok (.getfield 304, 3) := by decide +kernel
theorem dX13_goes_243 : decode cX13_goes 243 = .ok (.iload 6, 2) := by decide +kernel
theorem dX13_goes_245 : decode cX13_goes 245 = .ok (.iadd, 1) := by decide +kernel
theorem dX13_goes_246 : decode cX13_goes 246 = .ok (.putfield 304, 3) := by decide +kernel
theorem dX13_goes_249 : decode cX13_goes 249 = .ok (.aload_n 1, 1) := by decide +kernel
theorem dX13_goes_250 : decode cX13_goes 250 = .ok (.getfield 304, 3) := by decide +kernel
theorem dX13_goes_253 : decode cX13_goes 253 = .ok (.aload_n 0, 1) := by decide +kernel
theorem dX13_goes_254 : decode cX13_goes 254 = .ok (.getfield 22, 3) := by decide +kernel
theorem dX13_goes_257 : decode cX13_goes 257 = .ok (.aload_n 1, 1) := by decide +kernel
theorem dX13_goes_258 : decode cX13_goes 258 = .ok (.getfield 307, 3) := by decide +kernel
theorem dX13_goes_261 : decode cX13_goes 261 = .ok (.iaload, 1) := by decide +kernel
theorem dX13_goes_262 : decode cX13_goes 262 = .ok (.if_icmp .ge 4, 3) := by decide +kernel
theorem dX13_goes_265 : decode cX13_goes 265 = .ok (.return_, 1) := by decide +kernel
theorem dX13_goes_266 : decode cX13_goes 266 = .ok (.aload_n 1, 1) := by decide +kernel
theorem dX13_goes_267 : decode cX13_goes 267 = .ok (.dup, 1) := by decide +kernel
theorem dX13_goes_268 : decode cX13_goes 268 = .ok (.getfield 307, 3) := by decide +kernel
theorem dX13_goes_271 : decode cX13_goes 271 = .ok (.iconst 1, 1) := by decide +kernel
theorem dX13_goes_272 : decode cX13_goes 272 = .ok (.iadd, 1) := by decide +kernel
theorem dX13_goes_273 : decode cX13_goes 273 = .ok (.putfield 307, 3) := by decide +kernel
theorem dX13_goes_276 : decode cX13_goes 276 = .ok (.aload_n 1, 1) := by decide +kernel
theorem dX13_goes_277 : decode cX13_goes 277 = .ok (.iconst 0, 1) := by decide +kernel
theorem dX13_goes_278 : decode cX13_goes 278 = .ok (.putfield 304, 3) := by decide +kernel
theorem dX13_goes_281 : decode cX13_goes 281 = .ok (.aload_n 1, 1) := by decide +kernel
theorem dX13_goes_282 : decode cX13_goes 282 = .ok (.getfield 335, 3) := by decide +kernel
theorem dX13_goes_285 : decode cX13_goes 285 = .ok (.aload_n 1, 1) := by decide +kernel
theorem dX13_goes_286 : decode cX13_goes 286 = .ok (.getfield 307, 3) := by decide +kernel
theorem dX13_goes_289 : decode cX13_goes 289 = .ok (.iload_n 2, 1) := by decide +kernel
theorem dX13_goes_290 : decode cX13_goes 290 = .ok (.iconst 1, 1) := by decide +kernel
theorem dX13_goes_291 : decode cX13_goes 291 = .ok (.iadd, 1) := by decide +kernel
theorem dX13_goes_292 : decode cX13_goes 292 = .ok (.iastore, 1) := by decide +kernel
theorem dX13_goes_293 : decode cX13_goes 293 = .ok (.iconst 0, 1) := by decide +kernel
theorem dX13_goes_294 : decode cX13_goes 294 = .ok (.istore 7, 2) := by decide +kernel
theorem dX13_goes_296 : decode cX13_goes 296 = .ok (.iload 7, 2) := by decide +kernel
theorem dX13_goes_298 : decode cX13_goes 298 = .ok (.aload_n 1, 1) := by decide +kernel
theorem dX13_goes_299 : decode cX13_goes 299 = .ok (.getfield 361, 3) := by decide +kernel
theorem dX13_goes_302 : decode cX13_goes 302 = .ok (.if_icmp .ge 42, 3) := by decide +kernel
theorem dX13_goes_305 : decode cX13_goes 305 = .ok (.aload_n 1, 1) := by decide +kernel
theorem dX13_goes_306 : decode cX13_goes 306 = .ok (.getfield 352, 3) := by decide +kernel
theorem dX13_goes_309 : decode cX13_goes 309 = .ok (.iload 7, 2) := by decide +kernel
theorem dX13_goes_311 : decode cX13_goes 311 = .ok (.iaload, 1) := by decide +kernel
theorem dX13_goes_312 : decode cX13_goes 312 = .ok (.iconst 1, 1) := by decide +kernel
theorem dX13_goes_313 : decode cX13_goes 313 = .ok (.if_icmp .eq 6, 3) := by decide +kernel
theorem dX13_goes_316 : decode cX13_goes 316 = .ok (.goto 22, 3) := by decide +kernel
theorem dX13_goes_319 : decode cX13_goes 319 = .ok (.aload_n 1, 1) := by decide +kernel
theorem dX13_goes_320 : decode cX13_goes 320 = .ok (.getfield 352, 3) := by decide +kernel
theorem dX13_goes_323 : decode cX13_goes 323 = .ok (.iload 7, 2) := by decide +kernel
theorem dX13_goes_325 : decode cX13_goes 325 = .ok (.iconst 2, 1) := by decide +kernel
theorem dX13_goes_326 : decode cX13_goes 326 = .ok (.iastore, 1) := by decide +kernel
theorem dX13_goes_327 : decode cX13_goes 327 = .ok (.aload_n 1, 1) := by decide +kernel
theorem dX13_goes_328 : decode cX13_goes 328 = .ok (.getfield 355, 3) := by decide +kernel
theorem dX13_goes_331 : decode cX13_goes 331 = .ok (.iload 7, 2) := by decide +kernel
theorem dX13_goes_333 : decode cX13_goes 333 = .ok (.aload_n 1, 1) := by decide +kernel
theorem dX13_goes_334 : decode cX13_goes 334 = .ok (.getfield 307, 3) := by decide +kernel
theorem dX13_goes_337 : decode cX13_goes 337 = .ok (.iastore, 1) := by decide +kernel
theorem dX13_goes_338 : decode cX13_goes 338 = .ok (.iinc 7 1, 3) := by decide +kernel
theorem dX13_goes_341 : decode cX13_goes 341 = .ok (.goto (-45), 3) := by decide +kernel
theorem dX13_goes_344 : decode cX13_goes 344 = .ok (.aload_n 1, 1) := by decide +kernel
theorem dX13_goes_345 : decode cX13_goes 345 = .ok (.aload_n 1, 1) := by decide +kernel
theorem dX13_goes_346 : decode cX13_goes 346 = .ok (.getfield 369, 3) := by decide +kernel
theorem dX13_goes_349 : decode cX13_goes 349 = .ok (.putfield 327, 3) := by decide +kernel
theorem dX13_goes_352 : decode cX13_goes 352 = .ok (.aload_n 1, 1) := by decide +kernel
theorem dX13_goes_353 : decode cX13_goes 353 = .ok (.getfield 307, 3) := by decide +kernel
theorem dX13_goes_356 : decode cX13_goes 356 = .ok (.aload_n 0, 1) := by decide +kernel
theorem dX13_goes_357 : decode cX13_goes 357 = .ok (.getfield 91, 3) := by decide +kernel
theorem dX13_goes_360 : decode cX13_goes 360 = .ok (.if_icmp .ne 8, 3) := by decide +kernel
theorem dX13_goes_363 : decode cX13_goes 363 = .ok (.aload_n 1, 1) := by decide +kernel
theorem dX13_goes_364 : decode cX13_goes 364 = .ok (.iconst 2, 1) := by decide +kernel
theorem dX13_goes_365 : decode cX13_goes 365 = .ok (.putfield 289, 3) := by decide +kernel
theorem dX13_goes_368 : decode cX13_goes 368 = .ok (.return_, 1) := by decide +kernel
theorem dX13_isOver_0 : decode cX13_isOver 0 = .ok (.iconst 0, 1) := by decide +kernel
theorem dX13_isOver_1 : decode cX13_isOver 1 = .ok (.istore_n 1, 1) := by decide +kernel
theorem dX13_isOver_2 : decode cX13_isOver 2 = .ok (.iconst 0, 1) := by decide +kernel
theorem dX13_isOver_3 : decode cX13_isOver 3 = .ok (.istore_n 2, 1) := by decide +kernel
theorem dX13_isOver_4 : decode cX13_isOver 4 = .ok (.iload_n 2, 1) := by decide +kernel
theorem dX13_isOver_5 : decode cX13_isOver 5 = .ok (.aload_n 0, 1) := by decide +kernel
theorem dX13_isOver_6 : decode cX13_isOver 6 = .ok (.getfield 94, 3) := by decide +kernel
theorem dX13_isOver_9 : decode cX13_isOver 9 = .ok (.if_icmp .ge 32, 3) := by decide +kernel
theorem dX13_isOver_12 : decode cX13_isOver 12 = .ok (.iload_n 1, 1) := by decide +kernel
theorem dX13_isOver_13 : decode cX13_isOver 13 = .ok (.ifCond .ne 16, 3) := by decide +kernel
theorem dX13_isOver_16 : decode cX13_isOver 16 = .ok (.aload_n 0, 1) := by decide +kernel
theorem dX13_isOver_17 : decode cX13_isOver 17 = .ok (.getfield 34, 3) := by decide +kernel
theorem dX13_isOver_20 : decode cX13_isOver 20 = .ok (.iload_n 2, 1) := by decide +kernel
theorem dX13_isOver_21 : decode cX13_isOver 21 = .ok (.aaload, 1) := by decide +kernel
theorem dX13_isOver_22 : decode cX13_isOver 22 = .ok (.getfield 289, 3) := by decide +kernel
theorem dX13_isOver_25 : decode cX13_isOver 25 = .ok (.iconst 2, 1) := by decide +kernel
theorem dX13_isOver_26 : decode cX13_isOver 26 = .ok (.if_icmp .ge 7, 3) := by decide +kernel
theorem dX13_isOver_29 : decode cX13_isOver 29 = .ok (.iconst 1, 1) := by decide +kernel
theorem dX13_isOver_30 : decode cX13_isOver 30 = .ok (.goto 4, 3) := by decide +kernel
theorem dX13_isOver_33 : decode cX13_isOver 33 = .ok (.iconst 0, 1) := by decide +kernel
theorem dX13_isOver_34 : decode cX13_isOver 34 = .ok (.istore_n 1, 1) := by decide +kernel
theorem dX13_isOver_35 : decode cX13_isOver 35 = .ok (.iinc 2 1, 3) := by decide +kernel
theorem dX13_isOver_38 : decode cX13_isOver 38 = .ok (.goto (-34), 3) := by decide +kernel
theorem dX13_isOver_41 : decode cX13_isOver 41 = .ok (.iload_n 1, 1) := by decide +kernel
theorem dX13_isOver_42 : decode cX13_isOver 42 = .ok (.ifCond .eq 13, 3) := by decide +kernel
theorem dX13_isOver_45 : decode cX13_isOver 45 = .ok (.aload_n 0, 1) := by decide +kernel
theorem dX13_isOver_46 : decode cX13_isOver 46 = .ok (.getfield 100, 3) := by decide +kernel
theorem dX13_isOver_49 : decode cX13_isOver 49 = .ok (.sipush 2000, 3) := by decide +kernel
theorem dX13_isOver_52 : decode cX13_isOver 52 = .ok (.if_icmp .lt 7, 3) := by decide +kernel
theorem dX13_isOver_55 : decode cX13_isOver 55 = .ok (.iconst 1, 1) := by decide +kernel
theorem dX13_isOver_56 : decode cX13_isOver 56 = .ok (.goto 4, 3) := by decide +kernel
theorem dX13_isOver_59 : decode cX13_isOver 59 = .ok (.iconst 0, 1) := by decide +kernel
theorem dX13_isOver_60 : decode cX13_isOver 60 = .ok (.ireturn, 1) := by decide +kernel
theorem dX13_run_0 : decode cX13_run 0 = .ok (.aload_n 0, 1) := by decide +kernel
theorem dX13_run_1 : decode cX13_run 1 = .ok (.iconst 0, 1) := by decide +kernel
theorem dX13_run_2 : decode cX13_run 2 = .ok (.putfield 1, 3) := by decide +kernel
theorem dX13_run_5 : decode cX13_run 5 = .ok (.aload_n 0, 1) := by decide +kernel
theorem dX13_run_6 : decode cX13_run 6 = .ok (.invokevirtual 372, 3) := by decide +kernel
theorem dX13_run_9 : decode cX13_run 9 = .ok (.ifCond .eq 9, 3) := by decide +kernel
theorem dX13_run_12 : decode cX13_run 12 = .ok (.aload_n 0, 1) := by decide +kernel
theorem dX13_run_13 : decode cX13_run 13 = .ok (.iconst 5, 1) := by decide +kernel
theorem dX13_run_14 : decode cX13_run 14 = .ok (.invokevirtual 121, 3) := by decide +kernel
theorem dX13_run_17 : decode cX13_run 17 = .ok (.ireturn, 1) := by decide +kernel
theorem dX13_run_18 : decode cX13_run 18 = .ok (.iload_n 1, 1) := by decide +kernel
theorem dX13_run_19 : decode cX13_run 19 = .ok (.iconst 1, 1) := by decide +kernel
theorem dX13_run_20 : decode cX13_run 20 = .ok (.sipush 500, 3) := by decide +kernel
theorem dX13_run_23 : decode cX13_run 23 = .ok (.invokestatic 125, 3) := by decide +kernel
theorem dX13_run_26 : decode cX13_run 26 = .ok (.ifCond .ne 9, 3) := by decide +kernel
theorem dX13_run_29 : decode cX13_run 29 = .ok (.aload_n 0, 1) := by decide +kernel
theorem dX13_run_30 : decode cX13_run 30 = .ok (.iconst 2, 1) := by decide +kernel
theorem dX13_run_31 : decode cX13_run 31 = .ok (.invokevirtual 121, 3) := by decide +kernel
theorem dX13_run_34 : decode cX13_run 34 = .ok (.ireturn, 1) := by decide +kernel
theorem dX13_run_35 : decode cX13_run 35 = .ok (.iconst 0, 1) := by decide +kernel
theorem dX13_run_36 : decode cX13_run 36 = .ok (.istore_n 2, 1) := by decide +kernel
theorem dX13_run_37 : decode cX13_run 37 = .ok (.iload_n 2, 1) := by decide +kernel
theorem dX13_run_38 : decode cX13_run 38 = .ok (.iload_n 1, 1) := by decide +kernel
theorem dX13_run_39 : decode cX13_run 39 = .ok (.if_icmp .ge 158, 3) := by decide +kernel
theorem dX13_run_42 : decode cX13_run 42 = .ok (.aload_n 0, 1) := by decide +kernel
theorem dX13_run_43 : decode cX13_run 43 = .ok (.invokevirtual 372, 3) := by decide +kernel
theorem dX13_run_46 : decode cX13_run 46 = .ok (.ifCond .ne 151, 3) := by decide +kernel
theorem dX13_run_49 : decode cX13_run 49 = .ok (.iconst 0, 1) := by decide +kernel
theorem dX13_run_50 : decode cX13_run 50 = .ok (.istore_n 3, 1) := by decide +kernel
theorem dX13_run_51 : decode cX13_run 51 = .ok (.iload_n 3, 1) := by decide +kernel
theorem dX13_run_52 : decode cX13_run 52 = .ok (.aload_n 0, 1) := by decide +kernel
theorem dX13_run_53 : decode cX13_run 53 = .ok (.getfield 94, 3) := by decide +kernel
theorem dX13_run_56 : decode cX13_run 56 = .ok (.if_icmp .ge 23, 3) := by decide +kernel
theorem dX13_run_59 : decode cX13_run 59 = .ok (.aload_n 0, 1) := by decide +kernel
theorem dX13_run_60 : decode cX13_run 60 = .ok (.aload_n 0, 1) := by decide +kernel
theorem dX13_run_61 : decode cX13_run 61 = .ok (.getfield 34, 3) := by decide +kernel
theorem dX13_run_64 : decode cX13_run 64 = .ok (.iload_n 3, 1) := by decide +kernel
theorem dX13_run_65 : decode cX13_run 65 = .ok (.aaload, 1) := by decide +kernel
theorem dX13_run_66 : decode cX13_run 66 = .ok (.aload_n 0, 1) := by decide +kernel
theorem dX13_run_67 : decode cX13_run 67 = .ok (.getfield 100, 3) := by decide +kernel
theorem dX13_run_70 : decode cX13_run 70 = .ok (.invokevirtual 375, 3) := by decide +kernel
theorem dX13_run_73 : decode cX13_run 73 = .ok (.iinc 3 1, 3) := by decide +kernel
theorem dX13_run_76 : decode cX13_run 76 = .ok (.goto (-25), 3) := by decide +kernel
theorem dX13_run_79 : decode cX13_run 79 = .ok (.iconst 0, 1) := by decide +kernel
theorem dX13_run_80 : decode cX13_run 80 = .ok (.istore_n 3, 1) := by decide +kernel
theorem dX13_run_81 : decode cX13_run 81 = .ok (.iload_n 3, 1) := by decide +kernel
theorem dX13_run_82 : decode cX13_run 82 = .ok (.aload_n 0, 1) := by decide +kernel
theorem dX13_run_83 : decode cX13_run 83 = .ok (.getfield 94, 3) := by decide +kernel
theorem dX13_run_86 : decode cX13_run 86 = .ok (.if_icmp .ge 95, 3) := by decide +kernel
theorem dX13_run_89 : decode cX13_run 89 = .ok (.aload_n 0, 1) := by decide +kernel
theorem dX13_run_90 : decode cX13_run 90 = .ok (.getfield 34, 3) := by decide +kernel
theorem dX13_run_93 : decode cX13_run 93 = .ok (.iload_n 3, 1) := by decide +kernel
theorem dX13_run_94 : decode cX13_run 94 = .ok (.aaload, 1) := by decide +kernel
theorem dX13_run_95 : decode cX13_run 95 = .ok (.astore 4, 2) := by decide +kernel
theorem dX13_run_97 : decode cX13_run 97 = .ok (.aload_n 0, 1) := by decide +kernel
theorem dX13_run_98 : decode cX13_run 98 = .ok (.getfield 100, 3) := by decide +kernel
theorem dX13_run_101 : decode cX13_run 101 = .ok (.aload_n 0, 1) := by decide +kernel
theorem dX13_run_102 : decode cX13_run 102 = .ok (.getfield 19, 3) := by decide +kernel
theorem dX13_run_105 : decode cX13_run 105 = .ok (.irem, 1) := by decide +kernel
theorem dX13_run_106 : decode cX13_run 106 = .ok (.ifCond .ne 69, 3) := by decide +kernel
theorem dX13_run_109 : decode cX13_run 109 = .ok (.aload 4, 2) := by decide +kernel
theorem dX13_run_111 : decode cX13_run 111 = .ok (.getfield 289, 3) := by decide +kernel
theorem dX13_run_114 : decode cX13_run 114 = .ok (.ifCond .eq 61, 3) := by decide +kernel
theorem dX13_run_117 : decode cX13_run 117 = .ok (.aload 4, 2) := by decide +kernel
theorem dX13_run_119 : decode cX13_run 119 = .ok (.aload_n 0, 1) := by decide +kernel
theorem dX13_run_120 : decode cX13_run 120 = .ok (.getfield 100, 3) := by decide +kernel
theorem dX13_run_123 : decode cX13_run 123 = .ok (.invokevirtual 379, 3) := by decide +kernel
theorem dX13_run_126 : decode cX13_run 126 = .ok (.ifCond .eq 6, 3) := by decide +kernel
theorem dX13_run_129 : decode cX13_run 129 = .ok (.goto 46, 3) := by decide +kernel
theorem dX13_run_132 : decode cX13_run 132 = .ok (.aload 4, 2) := by decide +kernel
theorem dX13_run_134 : decode cX13_run 134 = .ok (.getfield 382, 3) := by decide +kernel
theorem dX13_run_137 : decode cX13_run 137 = .ok (.aload 4, 2) := by decide +kernel
theorem dX13_run_139 : decode cX13_run 139 = .ok (.getfield 385, 3) := by decide +kernel
theorem dX13_run_142 : decode cX13_run 142 = .ok (.aload_n 0, 1) := by decide +kernel
theorem dX13_run_143 : decode cX13_run 143 = .ok (.getfield 100, 3) := by decide +kernel
theorem dX13_run_146 : decode cX13_run 146 = .ok (.iastore, 1) := by decide +kernel
theorem dX13_run_147 : decode cX13_run 147 = .ok (.aload 4, 2) := by decide +kernel
theorem dX13_run_149 : decode cX13_run 149 = .ok (.getfield 388, 3) := by decide +kernel
theorem dX13_run_152 : decode cX13_run 152 = .ok (.aload 4, 2) := by decide +kernel
theorem dX13_run_154 : decode cX13_run 154 = .ok (.getfield 385, 3) := by decide +kernel
theorem dX13_run_157 : decode cX13_run 157 = .ok (.aload_n 0, 1) := by decide +kernel
theorem dX13_run_158 : decode cX13_run 158 = .ok (.aload 4, 2) := by decide +kernel
theorem dX13_run_160 : decode cX13_run 160 = .ok (.invokevirtual 391, 3) := by decide +kernel
theorem dX13_run_163 : decode cX13_run 163 = .ok (.iastore, 1) := by decide +kernel
theorem dX13_run_164 : decode cX13_run 164 = .ok (.aload 4, 2) := by decide +kernel
theorem dX13_run_166 : decode cX13_run 166 = .ok (.dup, 1) := by decide +kernel
theorem dX13_run_167 : decode cX13_run 167 = .ok (.getfield 385, 3) := by decide +kernel
theorem dX13_run_170 : decode cX13_run 170 = .ok (.iconst 1, 1) := by decide +kernel
theorem dX13_run_171 : decode cX13_run 171 = .ok (.iadd, 1) := by decide +kernel
theorem dX13_run_172 : decode cX13_run 172 = .ok (.putfield 385, 3) := by decide +kernel
theorem dX13_run_175 : decode cX13_run 175 = .ok (.iinc 3 1, 3) := by decide +kernel
theorem dX13_run_178 : decode cX13_run 178 = .ok (.goto (-97), 3) := by decide +kernel
theorem dX13_run_181 : decode cX13_run 181 = .ok (.aload_n 0, 1) := by decide +kernel
theorem dX13_run_182 : decode cX13_run 182 = .ok (.dup, 1) := by decide +kernel
theorem dX13_run_183 : decode cX13_run 183 = .ok (.getfield 100, 3) := by decide +kernel
theorem dX13_run_186 : decode cX13_run 186 = .ok (.iconst 1, 1) := by decide +kernel
theorem dX13_run_187 : decode cX13_run 187 = .ok (.iadd, 1) := by decide +kernel
theorem dX13_run_188 : decode cX13_run 188 = .ok (.putfield 100, 3) := by decide +kernel
theorem dX13_run_191 : decode cX13_run 191 = .ok (.iinc 2 1, 3) := by decide +kernel
theorem dX13_run_194 : decode cX13_run 194 = .ok (.goto (-157), 3) := by decide +kernel
theorem dX13_run_197 : decode cX13_run 197 = .ok (.aload_n 0, 1) := by decide +kernel
theorem dX13_run_198 : decode cX13_run 198 = .ok (.iload_n 2, 1) := by decide +kernel
theorem dX13_run_199 : decode cX13_run 199 = .ok (.invokevirtual 129, 3) := by decide +kernel
theorem dX13_run_202 : decode cX13_run 202 = .ok (.ireturn, 1) := by decide +kernel
theorem dX13_about_0 : decode cX13_about 0 = .ok (.aload_n 0, 1) := by decide +kernel
theorem dX13_about_1 : decode cX13_about 1 = .ok (.iconst 0, 1) := by decide +kernel
theorem dX13_about_2 : decode cX13_about 2 = .ok (.putfield 1, 3) := by decide +kernel
theorem dX13_about_5 : decode cX13_about 5 = .ok (.aload_n 0, 1) := by decide +kernel
theorem dX13_about_6 : decode cX13_about 6 = .ok (.iload_n 1, 1) := by decide +kernel
theorem dX13_about_7 : decode cX13_about 7 = .ok (.invokevirtual 286, 3) := by decide +kernel
theorem dX13_about_10 : decode cX13_about 10 = .ok (.ifCond .ne 5, 3) := by decide +kernel
theorem dX13_about_13 : decode cX13_about 13 = .ok (.iconst (-1), 1) := by decide +kernel
theorem dX13_about_14 : decode cX13_about 14 = .ok (.ireturn, 1) := by decide +kernel
theorem dX13_about_15 : decode cX13_about 15 = .ok (.aload_n 0, 1) := by decide +kernel
theorem dX13_about_16 : decode cX13_about 16 = .ok (.getfield 34, 3) := by decide +kernel
theorem dX13_about_19 : decode cX13_about 19 = .ok (.iload_n 1, 1) := by decide +kernel
theorem dX13_about_20 : decode cX13_about 20 = .ok (.aaload, 1) := by decide +kernel
theorem dX13_about_21 : decode cX13_about 21 = .ok (.astore_n 3, 1) := by decide +kernel
theorem dX13_about_22 : decode cX13_about 22 = .ok (.iload_n 2, 1) := by decide +kernel
theorem dX13_about_23 : decode cX13_about 23 = .ok (.tableswitch 134 0 12 #[65, 70, 75, 80, 86, 92, 98, 104, 109, 114, 119, 124, 129], 65) := by decide +kernel
theorem dX13_about_88 : decode cX13_about 88 = .ok (.aload_n 3, 1) := by decide +kernel
theorem dX13_about_89 : decode cX13_about 89 = .ok (.getfield 289, 3) := by decide +kernel
theorem dX13_about_92 : decode cX13_about 92 = .ok (.ireturn, 1) := by decide +kernel
theorem dX13_about_93 : decode cX13_about 93 = .ok (.aload_n 3, 1) := by decide +kernel
theorem dX13_about_94 : decode cX13_about 94 = .ok (.getfield 307, 3) := by decide +kernel
theorem dX13_about_97 : decode cX13_about 97 = .ok (.ireturn, 1) := by decide +kernel
theorem dX13_about_98 : decode cX13_about 98 = .ok (.aload_n 3, 1) := by decide +kernel
theorem dX13_about_99 : decode cX13_about 99 = .ok (.getfield 304, 3) := by decide +kernel
theorem dX13_about_102 : decode cX13_about 102 = .ok (.ireturn, 1) := by decide +kernel
theorem dX13_about_103 : decode cX13_about 103 = .ok (.aload_n 0, 1) := by decide +kernel
theorem dX13_about_104 : decode cX13_about 104 = .ok (.aload_n 3, 1) := by decide +kernel
theorem dX13_about_105 : decode cX13_about 105 = .ok (.invokevirtual 391, 3) := by decide +kernel
theorem dX13_about_108 : decode cX13_about 108 = .ok (.ireturn, 1) := by decide +kernel
theorem dX13_about_109 : decode cX13_about 109 = .ok (.aload_n 3, 1) := by decide +kernel
theorem dX13_about_110 : decode cX13_about 110 = .ok (.iconst 0, 1) := by decide +kernel
theorem dX13_about_111 : decode cX13_about 111 = .ok (.invokevirtual 324, 3) := by decide +kernel
theorem dX13_about_114 : decode cX13_about 114 = .ok (.ireturn, 1) := by decide +kernel
theorem dX13_about_115 : decode cX13_about 115 = .ok (.aload_n 3, 1) := by decide +kernel
theorem dX13_about_116 : decode cX13_about 116 = .ok (.iconst 1, 1) := by decide +kernel
theorem dX13_about_117 : decode cX13_about 117 = .ok (.invokevirtual 324, 3) := by decide +kernel
theorem dX13_about_120 : decode cX13_about 120 = .ok (.ireturn, 1) := by decide +kernel
theorem dX13_about_121 : decode cX13_about 121 = .ok (.aload_n 3, 1) := by decide +kernel
theorem dX13_about_122 : decode cX13_about 122 = .ok (.iconst 2, 1) := by decide +kernel
theorem dX13_about_123 : decode cX13_about 123 = .ok (.invokevirtual 324, 3) := by decide +kernel
theorem dX13_about_126 : decode cX13_about 126 = .ok (.ireturn, 1) := by decide +kernel
theorem dX13_about_127 : decode cX13_about 127 = .ok (.aload_n 3, 1) := by decide +kernel
theorem dX13_about_128 : decode cX13_about 128 = .ok (.getfield 327, 3) := by decide +kernel
theorem dX13_about_131 : decode cX13_about 131 = .ok (.ireturn, 1) := by decide +kernel
theorem dX13_about_132 : decode cX13_about 132 = .ok (.aload_n 3, 1) := by decide +kernel
theorem dX13_about_133 : decode cX13_about 133 = .ok (.getfield 322, 3) := by decide +kernel
theorem dX13_about_136 : decode cX13_about 136 = .ok (.ireturn, 1) := by decide +kernel
theorem dX13_about_137 : decode cX13_about 137 = .ok (.aload_n 3, 1) := by decide +kernel
theorem dX13_about_138 : decode cX13_about 138 = .ok (.getfield 310, 3) := by decide +kernel
theorem dX13_about_141 : decode cX13_about 141 = .ok (.ireturn, 1) := by decide +kernel
theorem dX13_about_142 : decode cX13_about 142 = .ok (.aload_n 3, 1) := by decide +kernel
theorem dX13_about_143 : decode cX13_about 143 = .ok (.getfield 312, 3) := by decide +kernel
theorem dX13_about_146 : decode cX13_about 146 = .ok (.ireturn, 1) := by decide +kernel
theorem dX13_about_147 : decode cX13_about 147 = .ok (.aload_n 3, 1) := by decide +kernel
theorem dX13_about_148 : decode cX13_about 148 = .ok (.getfield 292, 3) := by decide +kernel
theorem dX13_about_151 : decode cX13_about 151 = .ok (.ireturn, 1) := by decide +kernel
theorem dX13_about_152 : decode cX13_about 152 = .ok (.aload_n 3, 1) := by decide +kernel
theorem dX13_about_153 : decode cX13_about 153 = .ok (.getfield 333, 3) := by decide +kernel
theorem dX13_about_156 : decode cX13_about 156 = .ok (.ireturn, 1) := by decide +kernel
theorem dX13_about_157 : decode cX13_about 157 = .ok (.iconst (-1), 1) := by decide +kernel
theorem dX13_about_158 : decode cX13_about 158 = .ok (.ireturn, 1) := by decide +kernel
theorem dX13_dog_0 : decode cX13_dog 0 = .ok (.aload_n 0, 1) := by decide +kernel
theorem dX13_dog_1 : decode cX13_dog 1 = .ok (.iconst 0, 1) := by decide +kernel
theorem dX13_dog_2 : decode cX13_dog 2 = .ok (.putfield 1, 3) := by decide +kernel
theorem dX13_dog_5 : decode cX13_dog 5 = .ok (.aload_n 0, 1) := by decide +kernel
theorem dX13_dog_6 : decode cX13_dog 6 = .ok (.iload_n 1, 1) := by decide +kernel
theorem dX13_dog_7 : decode cX13_dog 7 = .ok (.invokevirtual 286, 3) := by decide +kernel
theorem dX13_dog_10 : decode cX13_dog 10 = .ok (.ifCond .eq 20, 3) := by decide +kernel
theorem dX13_dog_13 : decode cX13_dog 13 = .ok (.iload_n 2, 1) := by decide +kernel
theorem dX13_dog_14 : decode cX13_dog 14 = .ok (.ifCond .lt 16, 3) := by decide +kernel
theorem dX13_dog_17 : decode cX13_dog 17 = .ok (.iload_n 2, 1) := by decide +kernel
theorem dX13_dog_18 : decode cX13_dog 18 = .ok (.aload_n 0, 1) := by decide +kernel
theorem dX13_dog_19 : decode cX13_dog 19 = .ok (.getfield 34, 3) := by decide +kernel
theorem dX13_dog_22 : decode cX13_dog 22 = .ok (.iload_n 1, 1) := by decide +kernel
theorem dX13_dog_23 : decode cX13_dog 23 = .ok (.aaload, 1) := by decide +kernel
theorem dX13_dog_24 : decode cX13_dog 24 = .ok (.getfield 361, 3) := by decide +kernel
theorem dX13_dog_27 : decode cX13_dog 27 = .ok (.if_icmp .lt 5, 3) := by decide +kernel
theorem dX13_dog_30 : decode cX13_dog 30 = .ok (.iconst (-1), 1) := by decide +kernel
theorem dX13_dog_31 : decode cX13_dog 31 = .ok (.ireturn, 1) := by decide +kernel
theorem dX13_dog_32 : decode cX13_dog 32 = .ok (.aload_n 0, 1) := by decide +kernel
theorem dX13_dog_33 : decode cX13_dog 33 = .ok (.getfield 34, 3) := by decide +kernel
theorem dX13_dog_36 : decode cX13_dog 36 = .ok (.iload_n 1, 1) := by decide +kernel
theorem dX13_dog_37 : decode cX13_dog 37 = .ok (.aaload, 1) := by decide +kernel
theorem dX13_dog_38 : decode cX13_dog 38 = .ok (.astore 4, 2) := by decide +kernel
theorem dX13_dog_40 : decode cX13_dog 40 = .ok (.iload_n 3, 1) := by decide +kernel
theorem dX13_dog_41 : decode cX13_dog 41 = .ok (.ifCond .ne 13, 3) := by decide +kernel
theorem dX13_dog_44 : decode cX13_dog 44 = .ok (.aload 4, 2) := by decide +kernel
theorem dX13_dog_46 : decode cX13_dog 46 = .ok (.getfield 314, 3) := by decide +kernel
theorem dX13_dog_49 : decode cX13_dog 49 = .ok (.iload_n 2, 1) := by decide +kernel
theorem dX13_dog_50 : decode cX13_dog 50 = .ok (.iaload, 1) := by decide +kernel
theorem dX13_dog_51 : decode cX13_dog 51 = .ok (.goto 34, 3) := by decide +kernel
theorem dX13_dog_54 : decode cX13_dog 54 = .ok (.iload_n 3, 1) := by decide +kernel
theorem dX13_dog_55 : decode cX13_dog 55 = .ok (.iconst 1, 1) := by decide +kernel
theorem dX13_dog_56 : decode cX13_dog 56 = .ok (.if_icmp .ne 13, 3) := by decide +kernel
theorem dX13_dog_59 : decode cX13_dog 59 = .ok (.aload 4, 2) := by decide +kernel
theorem dX13_dog_61 : decode cX13_dog 61 = .ok (.getfield 352, 3) := by decide +kernel
theorem dX13_dog_64 : decode cX13_dog 64 = .ok (.iload_n 2, 1) := by decide +kernel
theorem dX13_dog_65 : decode cX13_dog 65 = .ok (.iaload, 1) := by decide +kernel
theorem dX13_dog_66 : decode cX13_dog 66 = .ok (.goto 19, 3) := by decide +kernel
theorem dX13_dog_69 : decode cX13_dog 69 = .ok (.iload_n 3, 1) := by decide +kernel
theorem dX13_dog_70 : decode cX13_dog 70 = .ok (.iconst 2, 1) := by decide +kernel
theorem dX13_dog_71 : decode cX13_dog 71 = .ok (.if_icmp .ne 13, 3) := by decide +kernel
theorem dX13_dog_74 : decode cX13_dog 74 = .ok (.aload 4, 2) := by decide +kernel
theorem dX13_dog_76 : decode cX13_dog 76 = .ok (.getfield 355, 3) := by decide +kernel
theorem dX13_dog_79 : decode cX13_dog 79 = .ok (.iload_n 2, 1) := by decide +kernel
theorem dX13_dog_80 : decode cX13_dog 80 = .ok (.iaload, 1) := by decide +kernel
theorem dX13_dog_81 : decode cX13_dog 81 = .ok (.goto 4, 3) := by decide +kernel
theorem dX13_dog_84 : decode cX13_dog 84 = .ok (.iconst (-1), 1) := by decide +kernel
theorem dX13_dog_85 : decode cX13_dog 85 = .ok (.ireturn, 1) := by decide +kernel
theorem dX13_time_0 : decode cX13_time 0 = .ok (.aload_n 0, 1) := by decide +kernel
theorem dX13_time_1 : decode cX13_time 1 = .ok (.iconst 0, 1) := by decide +kernel
theorem dX13_time_2 : decode cX13_time 2 = .ok (.putfield 1, 3) := by decide +kernel
theorem dX13_time_5 : decode cX13_time 5 = .ok (.aload_n 0, 1) := by decide +kernel
theorem dX13_time_6 : decode cX13_time 6 = .ok (.iload_n 1, 1) := by decide +kernel
theorem dX13_time_7 : decode cX13_time 7 = .ok (.invokevirtual 286, 3) := by decide +kernel
theorem dX13_time_10 : decode cX13_time 10 = .ok (.ifCond .eq 15, 3) := by decide +kernel
theorem dX13_time_13 : decode cX13_time 13 = .ok (.iload_n 2, 1) := by decide +kernel
theorem dX13_time_14 : decode cX13_time 14 = .ok (.ifCond .lt 11, 3) := by decide +kernel
theorem dX13_time_17 : decode cX13_time 17 = .ok (.iload_n 2, 1) := by decide +kernel
theorem dX13_time_18 : decode cX13_time 18 = .ok (.aload_n 0, 1) := by decide +kernel
theorem dX13_time_19 : decode cX13_time 19 = .ok (.getfield 91, 3) := by decide +kernel
theorem dX13_time_22 : decode cX13_time 22 = .ok (.if_icmp .le 5, 3) := by decide +kernel
theorem dX13_time_25 : decode cX13_time 25 = .ok (.iconst (-1), 1) := by decide +kernel
theorem dX13_time_26 : decode cX13_time 26 = .ok (.ireturn, 1) := by decide +kernel
theorem dX13_time_27 : decode cX13_time 27 = .ok (.iload_n 3, 1) := by decide +kernel
theorem dX13_time_28 : decode cX13_time 28 = .ok (.ifCond .eq 17, 3) := by decide +kernel
theorem dX13_time_31 : decode cX13_time 31 = .ok (.aload_n 0, 1) := by decide +kernel
theorem dX13_time_32 : decode cX13_time 32 = .ok (.getfield 34, 3) := by decide +kernel
theorem dX13_time_35 : decode cX13_time 35 = .ok (.iload_n 1, 1) := by decide +kernel
theorem dX13_time_36 : decode cX13_time 36 = .ok (.aaload, 1) := by decide +kernel
theorem dX13_time_37 : decode cX13_time 37 = .ok (.getfield 358, 3) := by decide +kernel
theorem dX13_time_40 : decode cX13_time 40 = .ok (.iload_n 2, 1) := by decide +kernel
theorem dX13_time_41 : decode cX13_time 41 = .ok (.iaload, 1) := by decide +kernel
theorem dX13_time_42 : decode cX13_time 42 = .ok (.goto 14, 3) := by decide +kernel
theorem dX13_time_45 : decode cX13_time 45 = .ok (.aload_n 0, 1) := by decide +kernel
theorem dX13_time_46 : decode cX13_time 46 = .ok (.getfield 34, 3) := by decide +kernel
theorem dX13_time_49 : decode cX13_time 49 = .ok (.iload_n 1, 1) := by decide +kernel
theorem dX13_time_50 : decode cX13_time 50 = .ok (.aaload, 1) := by decide +kernel
theorem dX13_time_51 : decode cX13_time 51 = .ok (.getfield 335, 3) := by decide +kernel
theorem dX13_time_54 : decode cX13_time 54 = .ok (.iload_n 2, 1) := by decide +kernel
theorem dX13_time_55 : decode cX13_time 55 = .ok (.iaload, 1) := by decide +kernel
theorem dX13_time_56 : decode cX13_time 56 = .ok (.ireturn, 1) := by decide +kernel
theorem dX13_did_0 : decode cX13_did 0 = .ok (.aload_n 0, 1) := by decide +kernel
theorem dX13_did_1 : decode cX13_did 1 = .ok (.iconst 0, 1) := by decide +kernel
theorem dX13_did_2 : decode cX13_did 2 = .ok (.putfield 1, 3) := by decide +kernel
theorem dX13_did_5 : decode cX13_did 5 = .ok (.aload_n 0, 1) := by decide +kernel
theorem dX13_did_6 : decode cX13_did 6 = .ok (.iload_n 1, 1) := by decide +kernel
theorem dX13_did_7 : decode cX13_did 7 = .ok (.invokevirtual 286, 3) := by decide +kernel
theorem dX13_did_10 : decode cX13_did 10 = .ok (.ifCond .eq 15, 3) := by decide +kernel
theorem dX13_did_13 : decode cX13_did 13 = .ok (.aload_n 0, 1) := by decide +kernel
theorem dX13_did_14 : decode cX13_did 14 = .ok (.getfield 34, 3) := by decide +kernel
theorem dX13_did_17 : decode cX13_did 17 = .ok (.iload_n 1, 1) := by decide +kernel
theorem dX13_did_18 : decode cX13_did 18 = .ok (.aaload, 1) := by decide +kernel
theorem dX13_did_19 : decode cX13_did 19 = .ok (.getfield 342, 3) := by decide +kernel
theorem dX13_did_22 : decode cX13_did 22 = .ok (.goto 4, 3) := by decide +kernel
theorem dX13_did_25 : decode cX13_did 25 = .ok (.iconst (-1), 1) := by decide +kernel
theorem dX13_did_26 : decode cX13_did 26 = .ok (.ireturn, 1) := by decide +kernel
theorem dX13_less_0 : decode cX13_less 0 = .ok (.iload_n 2, 1) := by decide +kernel
theorem dX13_less_1 : decode cX13_less 1 = .ok (.aload_n 0, 1) := by decide +kernel
theorem dX13_less_2 : decode cX13_less 2 = .ok (.getfield 91, 3) := by decide +kernel
theorem dX13_less_5 : decode cX13_less 5 = .ok (.if_icmp .ne 7, 3) := by decide +kernel
theorem dX13_less_8 : decode cX13_less 8 = .ok (.iconst 0, 1) := by decide +kernel
theorem dX13_less_9 : decode cX13_less 9 = .ok (.goto 22, 3) := by decide +kernel
theorem dX13_less_12 : decode cX13_less 12 = .ok (.iconst 0, 1) := by decide +kernel
theorem dX13_less_13 : decode cX13_less 13 = .ok (.iload_n 3, 1) := by decide +kernel
theorem dX13_less_14 : decode cX13_less 14 = .ok (.aload_n 1, 1) := by decide +kernel
theorem dX13_less_15 : decode cX13_less 15 = .ok (.getfield 358, 3) := by decide +kernel
theorem dX13_less_18 : decode cX13_less 18 = .ok (.iload_n 2, 1) := by decide +kernel
theorem dX13_less_19 : decode cX13_less 19 = .ok (.iaload, 1) := by decide +kernel
theorem dX13_less_20 : decode cX13_less 20 = .ok (.aload_n 1, 1) := by decide +kernel
theorem dX13_less_21 : decode cX13_less 21 = .ok (.getfield 335, 3) := by decide +kernel
theorem dX13_less_24 : decode cX13_less 24 = .ok (.iload_n 2, 1) := by decide +kernel
theorem dX13_less_25 : decode cX13_less 25 = .ok (.iaload, 1) := by decide +kernel
theorem dX13_less_26 : decode cX13_less 26 = .ok (.isub, 1) := by decide +kernel
theorem dX13_less_27 : decode cX13_less 27 = .ok (.isub, 1) := by decide +kernel
theorem dX13_less_28 : decode cX13_less 28 = .ok (.invokestatic 363, 3) := by decide +kernel
theorem dX13_less_31 : decode cX13_less 31 = .ok (.ireturn, 1) := by decide +kernel
theorem dX13_lacksOf_0 : decode cX13_lacksOf 0 = .ok (.aload_n 0, 1) := by decide +kernel
theorem dX13_lacksOf_1 : decode cX13_lacksOf 1 = .ok (.getfield 88, 3) := by decide +kernel
theorem dX13_lacksOf_4 : decode cX13_lacksOf 4 = .ok (.iconst 4, 1) := by decide +kernel
theorem dX13_lacksOf_5 : decode cX13_lacksOf 5 = .ok (.iload_n 2, 1) := by decide +kernel
theorem dX13_lacksOf_6 : decode cX13_lacksOf 6 = .ok (.imul, 1) := by decide +kernel
theorem dX13_lacksOf_7 : decode cX13_lacksOf 7 = .ok (.iconst 1, 1) := by decide +kernel
theorem dX13_lacksOf_8 : decode cX13_lacksOf 8 = .ok (.iadd, 1) := by decide +kernel
theorem dX13_lacksOf_9 : decode cX13_lacksOf 9 = .ok (.iaload, 1) := by decide +kernel
theorem dX13_lacksOf_10 : decode cX13_lacksOf 10 = .ok (.istore_n 3, 1) := by decide +kernel
theorem dX13_lacksOf_11 : decode cX13_lacksOf 11 = .ok (.aload_n 0, 1) := by decide +kernel
theorem dX13_lacksOf_12 : decode cX13_lacksOf 12 = .ok (.getfield 88, 3) := by decide +kernel
theorem dX13_lacksOf_15 : decode cX13_lacksOf 15 = .ok (.iconst 4, 1) := by decide +kernel
theorem dX13_lacksOf_16 : decode cX13_lacksOf 16 = .ok (.iload_n 2, 1) := by decide +kernel
theorem dX13_lacksOf_17 : decode cX13_lacksOf 17 = .ok (.imul, 1) := by decide +kernel
theorem dX13_lacksOf_18 : decode cX13_lacksOf 18 = .ok (.iconst 2, 1) := by decide +kernel
theorem dX13_lacksOf_19 : decode cX13_lacksOf 19 = .ok (.iadd, 1) := by decide +kernel
theorem dX13_lacksOf_20 : decode cX13_lacksOf 20 = .ok (.iaload, 1) := by decide +kernel
theorem dX13_lacksOf_21 : decode cX13_lacksOf 21 = .ok (.istore 4, 2) := by decide +kernel
theorem dX13_lacksOf_23 : decode cX13_lacksOf 23 = .ok (.aload_n 0, 1) := by decide +kernel
theorem dX13_lacksOf_24 : decode cX13_lacksOf 24 = .ok (.getfield 88, 3) := by decide +kernel
theorem dX13_lacksOf_27 : decode cX13_lacksOf 27 = .ok (.iconst 4, 1) := by decide +kernel
theorem dX13_lacksOf_28 : decode cX13_lacksOf 28 = .ok (.iload_n 2, 1) := by decide +kernel
theorem dX13_lacksOf_29 : decode cX13_lacksOf 29 = .ok (.imul, 1) := by decide +kernel
theorem dX13_lacksOf_30 : decode cX13_lacksOf 30 = .ok (.iconst 3, 1) := by decide +kernel
theorem dX13_lacksOf_31 : decode cX13_lacksOf 31 = .ok (.iadd, 1) := by decide +kernel
theorem dX13_lacksOf_32 : decode cX13_lacksOf 32 = .ok (.iaload, 1) := by decide +kernel
theorem dX13_lacksOf_33 : decode cX13_lacksOf 33 = .ok (.istore 5, 2) := by decide +kernel
theorem dX13_lacksOf_35 : decode cX13_lacksOf 35 = .ok (.aload_n 0, 1) := by decide +kernel
theorem dX13_lacksOf_36 : decode cX13_lacksOf 36 = .ok (.getfield 88, 3) := by decide +kernel
theorem dX13_lacksOf_39 : decode cX13_lacksOf 39 = .ok (.iconst 4, 1) := by decide +kernel
theorem dX13_lacksOf_40 : decode cX13_lacksOf 40 = .ok (.iload_n 2, 1) := by decide +kernel
theorem dX13_lacksOf_41 : decode cX13_lacksOf 41 = .ok (.imul, 1) := by decide +kernel
theorem dX13_lacksOf_42 : decode cX13_lacksOf 42 = .ok (.iaload, 1) := by decide +kernel
theorem dX13_lacksOf_43 : decode cX13_lacksOf 43 = .ok (.tableswitch 124 0 2 #[25, 47, 112], 25) := by decide +kernel
theorem dX13_lacksOf_68 : decode cX13_lacksOf 68 = .ok (.iload 4, 2) := by decide +kernel
theorem dX13_lacksOf_70 : decode cX13_lacksOf 70 = .ok (.aload_n 0, 1) := by decide +kernel
theorem dX13_lacksOf_71 : decode cX13_lacksOf 71 = .ok (.getfield 91, 3) := by decide +kernel
theorem dX13_lacksOf_74 : decode cX13_lacksOf 74 = .ok (.if_icmp .le 7, 3) := by decide +kernel
theorem dX13_lacksOf_77 : decode cX13_lacksOf 77 = .ok (.iconst 0, 1) := by decide +kernel
theorem dX13_lacksOf_78 : decode cX13_lacksOf 78 = .ok (.goto 11, 3) := by decide +kernel
theorem dX13_lacksOf_81 : decode cX13_lacksOf 81 = .ok (.aload_n 0, 1) := by decide +kernel
theorem dX13_lacksOf_82 : decode cX13_lacksOf 82 = .ok (.aload_n 1, 1) := by decide +kernel
theorem dX13_lacksOf_83 : decode cX13_lacksOf 83 = .ok (.iload 4, 2) := by decide +kernel
theorem dX13_lacksOf_85 : decode cX13_lacksOf 85 = .ok (.iload_n 3, 1) := by decide +kernel
theorem dX13_lacksOf_86 : decode cX13_lacksOf 86 = .ok (.invokevirtual 395, 3) := by decide +kernel
theorem dX13_lacksOf_89 : decode cX13_lacksOf 89 = .ok (.ireturn, 1) := by decide +kernel
theorem dX13_lacksOf_90 : decode cX13_lacksOf 90 = .ok (.iload 4, 2) := by decide +kernel
theorem dX13_lacksOf_92 : decode cX13_lacksOf 92 = .ok (.iload 5, 2) := by decide +kernel
theorem dX13_lacksOf_94 : decode cX13_lacksOf 94 = .ok (.if_icmp .gt 12, 3) := by decide +kernel
theorem dX13_lacksOf_97 : decode cX13_lacksOf 97 = .ok (.iload 5, 2) := by decide +kernel
theorem dX13_lacksOf_99 : decode cX13_lacksOf 99 = .ok (.aload_n 0, 1) := by decide +kernel
theorem dX13_lacksOf_100 : decode cX13_lacksOf 100 = .ok (.getfield 91, 3) := by decide +kernel
theorem dX13_lacksOf_103 : decode cX13_lacksOf 103 = .ok (.if_icmp .le 5, 3) := by decide +kernel
theorem dX13_lacksOf_106 : decode cX13_lacksOf 106 = .ok (.iconst 0, 1) := by decide +kernel
theorem dX13_lacksOf_107 : decode cX13_lacksOf 107 = .ok (.ireturn, 1) := by decide +kernel
theorem dX13_lacksOf_108 : decode cX13_lacksOf 108 = .ok (.aload_n 0, 1) := by decide +kernel
theorem dX13_lacksOf_109 : decode cX13_lacksOf 109 = .ok (.aload_n 1, 1) := by decide +kernel
theorem dX13_lacksOf_110 : decode cX13_lacksOf 110 = .ok (.iload 4, 2) := by decide +kernel
theorem dX13_lacksOf_112 : decode cX13_lacksOf 112 = .ok (.iload_n 3, 1) := by decide +kernel
theorem dX13_lacksOf_113 : decode cX13_lacksOf 113 = .ok (.invokevirtual 395, 3) := by decide +kernel
theorem dX13_lacksOf_116 : decode cX13_lacksOf 116 = .ok (.istore 6, 2) := by decide +kernel
theorem dX13_lacksOf_118 : decode cX13_lacksOf 118 = .ok (.iload 4, 2) := by decide +kernel
theorem dX13_lacksOf_120 : decode cX13_lacksOf 120 = .ok (.iconst 1, 1) := by decide +kernel
theorem dX13_lacksOf_121 : decode cX13_lacksOf 121 = .ok (.iadd, 1) := by decide +kernel
theorem dX13_lacksOf_122 : decode cX13_lacksOf 122 = .ok (.istore 7, 2) := by decide +kernel
theorem dX13_lacksOf_124 : decode cX13_lacksOf 124 = .ok (.iload 7, 2) := by decide +kernel
theorem dX13_lacksOf_126 : decode cX13_lacksOf 126 = .ok (.iload 5, 2) := by decide +kernel
theorem dX13_lacksOf_128 : decode cX13_lacksOf 128 = .ok (.if_icmp .gt 24, 3) := by decide +kernel
theorem dX13_lacksOf_131 : decode cX13_lacksOf 131 = .ok (.iload 6, 2) := by decide +kernel
theorem dX13_lacksOf_133 : decode cX13_lacksOf 133 = .ok (.aload_n 0, 1) := by decide +kernel
theorem dX13_lacksOf_134 : decode cX13_lacksOf 134 = .ok (.aload_n 1, 1) := by decide +kernel
theorem dX13_lacksOf_135 : decode cX13_lacksOf 135 = .ok (.iload 7, 2) := by decide +kernel
theorem dX13_lacksOf_137 : decode cX13_lacksOf 137 = .ok (.iload_n 3, 1) := by decide +kernel
theorem dX13_lacksOf_138 : decode cX13_lacksOf 138 = .ok (.invokevirtual 395, 3) := by decide +kernel
theorem dX13_lacksOf_141 : decode cX13_lacksOf 141 = .ok (.invokestatic 398, 3) := by decide +kernel
theorem dX13_lacksOf_144 : decode cX13_lacksOf 144 = .ok (.istore 6, 2) := by decide +kernel
theorem dX13_lacksOf_146 : decode cX13_lacksOf 146 = .ok (.iinc 7 1, 3) := by decide +kernel
theorem dX13_lacksOf_149 : decode cX13_lacksOf 149 = .ok (.goto (-25), 3) := by decide +kernel
theorem dX13_lacksOf_152 : decode cX13_lacksOf 152 = .ok (.iload 6, 2) := by decide +kernel
theorem dX13_lacksOf_154 : decode cX13_lacksOf 154 = .ok (.ireturn, 1) := by decide +kernel
theorem dX13_lacksOf_155 : decode cX13_lacksOf 155 = .ok (.iconst 0, 1) := by decide +kernel
theorem dX13_lacksOf_156 : decode cX13_lacksOf 156 = .ok (.iload_n 3, 1) := by decide +kernel
theorem dX13_lacksOf_157 : decode cX13_lacksOf 157 = .ok (.aload_n 1, 1) := by decide +kernel
theorem dX13_lacksOf_158 : decode cX13_lacksOf 158 = .ok (.iconst 0, 1) := by decide +kernel
theorem dX13_lacksOf_159 : decode cX13_lacksOf 159 = .ok (.invokevirtual 324, 3) := by decide +kernel
theorem dX13_lacksOf_162 : decode cX13_lacksOf 162 = .ok (.isub, 1) := by decide +kernel
theorem dX13_lacksOf_163 : decode cX13_lacksOf 163 = .ok (.invokestatic 363, 3) := by decide +kernel
theorem dX13_lacksOf_166 : decode cX13_lacksOf 166 = .ok (.ireturn, 1) := by decide +kernel
theorem dX13_lacksOf_167 : decode cX13_lacksOf 167 = .ok (.iconst 0, 1) := by decide +kernel
theorem dX13_lacksOf_168 : decode cX13_lacksOf 168 = .ok (.ireturn, 1) := by decide +kernel
theorem dX13_resultOf_0 : decode cX13_resultOf 0 = .ok (.iconst 2, 1) := by decide +kernel
theorem dX13_resultOf_1 : decode cX13_resultOf 1 = .ok (.istore_n 2, 1) := by decide +kernel
theorem dX13_resultOf_2 : decode cX13_resultOf 2 = .ok (.bipush 60, 2) := by decide +kernel
theorem dX13_resultOf_4 : decode cX13_resultOf 4 = .ok (.istore_n 3, 1) := by decide +kernel
theorem dX13_resultOf_5 : decode cX13_resultOf 5 = .ok (.iconst 0, 1) := by decide +kernel
theorem dX13_resultOf_6 : decode cX13_resultOf 6 = .ok (.istore 4, 2) := by decide +kernel
theorem dX13_resultOf_8 : decode cX13_resultOf 8 = .ok (.iconst 0, 1) := by decide +kernel
theorem dX13_resultOf_9 : decode cX13_resultOf 9 = .ok (.istore 5, 2) := by decide +kernel
theorem dX13_resultOf_11 : decode cX13_resultOf 11 = .ok (.iconst 0, 1) := by decide +kernel
theorem dX13_resultOf_12 : decode cX13_resultOf 12 = .ok (.istore 6, 2) := by decide +kernel
theorem dX13_resultOf_14 : decode cX13_resultOf 14 = .ok (.iload 6, 2) := by decide +kernel
theorem dX13_resultOf_16 : decode cX13_resultOf 16 = .ok (.aload_n 0, 1) := by decide +kernel
theorem dX13_resultOf_17 : decode cX13_resultOf 17 = .ok (.getfield 250, 3) := by decide +kernel
theorem dX13_resultOf_20 : decode cX13_resultOf 20 = .ok (.if_icmp .ge 89, 3) := by decide +kernel
theorem dX13_resultOf_23 : decode cX13_resultOf 23 = .ok (.aload_n 0, 1) := by decide +kernel
theorem dX13_resultOf_24 : decode cX13_resultOf 24 = .ok (.getfield 88, 3) := by decide +kernel
theorem dX13_resultOf_27 : decode cX13_resultOf 27 = .ok (.iconst 4, 1) := by decide +kernel
theorem dX13_resultOf_28 : decode cX13_resultOf 28 = .ok (.iload 6, 2) := by decide +kernel
theorem dX13_resultOf_30 : decode cX13_resultOf 30 = .ok (.imul, 1) := by decide +kernel
theorem dX13_resultOf_31 : decode cX13_resultOf 31 = .ok (.iaload, 1) := by decide +kernel
theorem dX13_resultOf_32 : decode cX13_resultOf 32 = .ok (.iconst 3, 1) := by decide +kernel
theorem dX13_resultOf_33 : decode cX13_resultOf 33 = .ok (.if_icmp .ne 30, 3) := by decide +kernel
theorem dX13_resultOf_36 : decode cX13_resultOf 36 = .ok (.aload_n 0, 1) := by decide +kernel
theorem dX13_resultOf_37 : decode cX13_resultOf 37 = .ok (.getfield 88, 3) := by decide +kernel
theorem dX13_resultOf_40 : decode cX13_resultOf 40 = .ok (.iconst 4, 1) := by decide +kernel
theorem dX13_resultOf_41 : decode cX13_resultOf 41 = .ok (.iload 6, 2) := by decide +kernel
theorem dX13_resultOf_43 : decode cX13_resultOf 43 = .ok (.imul, 1) := by decide +kernel
theorem dX13_resultOf_44 : decode cX13_resultOf 44 = .ok (.iconst 1, 1) := by decide +kernel
theorem dX13_resultOf_45 : decode cX13_resultOf 45 = .ok (.iadd, 1) := by decide +kernel
theorem dX13_resultOf_46 : decode cX13_resultOf 46 = .ok (.iaload, 1) := by decide +kernel
theorem dX13_resultOf_47 : decode cX13_resultOf 47 = .ok (.istore_n 2, 1) := by decide +kernel
theorem dX13_resultOf_48 : decode cX13_resultOf 48 = .ok (.aload_n 0, 1) := by decide +kernel
theorem dX13_resultOf_49 : decode cX13_resultOf 49 = .ok (.getfield 88, 3) := by decide +kernel
theorem dX13_resultOf_52 : decode cX13_resultOf 52 = .ok (.iconst 4, 1) := by decide +kernel
theorem dX13_resultOf_53 : decode cX13_resultOf 53 = .ok (.iload 6, 2) := by decide +kernel
theorem dX13_resultOf_55 : decode cX13_resultOf 55 = .ok (.imul, 1) := by decide +kernel
theorem dX13_resultOf_56 : decode cX13_resultOf 56 = .ok (.iconst 2, 1) := by decide +kernel
theorem dX13_resultOf_57 : decode cX13_resultOf 57 = .ok (.iadd, 1) := by decide +kernel
theorem dX13_resultOf_58 : decode cX13_resultOf 58 = .ok (.iaload, 1) := by decide +kernel
theorem dX13_resultOf_59 : decode cX13_resultOf 59 = .ok (.istore_n 3, 1) := by decide +kernel
theorem dX13_resultOf_60 : decode cX13_resultOf 60 = .ok (.goto 43, 3) := by decide +kernel
theorem dX13_resultOf_63 : decode cX13_resultOf 63 = .ok (.aload_n 0, 1) := by decide +kernel
theorem dX13_resultOf_64 : decode cX13_resultOf 64 = .ok (.getfield 88, 3) := by decide +kernel
theorem dX13_resultOf_67 : decode cX13_resultOf 67 = .ok (.iconst 4, 1) := by decide +kernel
theorem dX13_resultOf_68 : decode cX13_resultOf 68 = .ok (.iload 6, 2) := by decide +kernel
theorem dX13_resultOf_70 : decode cX13_resultOf 70 = .ok (.imul, 1) := by decide +kernel
theorem dX13_resultOf_71 : decode cX13_resultOf 71 = .ok (.iaload, 1) := by decide +kernel
theorem dX13_resultOf_72 : decode cX13_resultOf 72 = .ok (.iconst 2, 1) := by decide +kernel
theorem dX13_resultOf_73 : decode cX13_resultOf 73 = .ok (.if_icmp .ne 18, 3) := by decide +kernel
theorem dX13_resultOf_76 : decode cX13_resultOf 76 = .ok (.iload 5, 2) := by decide +kernel
theorem dX13_resultOf_78 : decode cX13_resultOf 78 = .ok (.aload_n 0, 1) := by decide +kernel
theorem dX13_resultOf_79 : decode cX13_resultOf 79 = .ok (.aload_n 1, 1) := by decide +kernel
theorem dX13_resultOf_80 : decode cX13_resultOf 80 = .ok (.iload 6, 2) := by decide +kernel
theorem dX13_resultOf_82 : decode cX13_resultOf 82 = .ok (.invokevirtual 401, 3) := by decide +kernel
theorem dX13_resultOf_85 : decode cX13_resultOf 85 = .ok (.iadd, 1) := by decide +kernel
theorem dX13_resultOf_86 : decode cX13_resultOf 86 = .ok (.istore 5, 2) := by decide +kernel
theorem dX13_resultOf_88 : decode cX13_resultOf 88 = .ok (.goto 15, 3) := by decide +kernel
theorem dX13_resultOf_91 : decode cX13_resultOf 91 = .ok (.iload 4, 2) := by decide +kernel
theorem dX13_resultOf_93 : decode cX13_resultOf 93 = .ok (.aload_n 0, 1) := by decide +kernel
theorem dX13_resultOf_94 : decode cX13_resultOf 94 = .ok (.aload_n 1, 1) := by decide +kernel
theorem dX13_resultOf_95 : decode cX13_resultOf 95 = .ok (.iload 6, 2) := by decide +kernel
theorem dX13_resultOf_97 : decode cX13_resultOf 97 = .ok (.invokevirtual 401, 3) := by decide +kernel
theorem dX13_resultOf_100 : decode cX13_resultOf 100 = .ok (.iadd, 1) := by decide +kernel
theorem dX13_resultOf_101 : decode cX13_resultOf 101 = .ok (.istore 4, 2) := by decide +kernel
theorem dX13_resultOf_103 : decode cX13_resultOf 103 = .ok (.iinc 6 1, 3) := by decide +kernel
theorem dX13_resultOf_106 : decode cX13_resultOf 106 = .ok (.goto (-92), 3) := by decide +kernel
theorem dX13_resultOf_109 : decode cX13_resultOf 109 = .ok (.aload_n 1, 1) := by decide +kernel
theorem dX13_resultOf_110 : decode cX13_resultOf 110 = .ok (.getfield 335, 3) := by decide +kernel
theorem dX13_resultOf_113 : decode cX13_resultOf 113 = .ok (.aload_n 0, 1) := by decide +kernel
theorem dX13_resultOf_114 : decode cX13_resultOf 114 = .ok (.getfield 91, 3) := by decide +kernel
theorem dX13_resultOf_117 : decode cX13_resultOf 117 = .ok (.iaload, 1) := by decide +kernel
theorem dX13_resultOf_118 : decode cX13_resultOf 118 = .ok (.aload_n 1, 1) := by decide +kernel
theorem dX13_resultOf_119 : decode cX13_resultOf 119 = .ok (.getfield 333, 3) := by decide +kernel
theorem dX13_resultOf_122 : decode cX13_resultOf 122 = .ok (.isub, 1) := by decide +kernel
theorem dX13_resultOf_123 : decode cX13_resultOf 123 = .ok (.iload_n 2, 1) := by decide +kernel
theorem dX13_resultOf_124 : decode cX13_resultOf 124 = .ok (.iload 4, 2) := by decide +kernel
theorem dX13_resultOf_126 : decode cX13_resultOf 126 = .ok (.imul, 1) := by decide +kernel
theorem dX13_resultOf_127 : decode cX13_resultOf 127 = .ok (.iadd, 1) := by decide +kernel
theorem dX13_resultOf_128 : decode cX13_resultOf 128 = .ok (.iload_n 3, 1) := by decide +kernel
theorem dX13_resultOf_129 : decode cX13_resultOf 129 = .ok (.iload 5, 2) := by decide +kernel
theorem dX13_resultOf_131 : decode cX13_resultOf 131 = .ok (.imul, 1) := by decide +kernel
theorem dX13_resultOf_132 : decode cX13_resultOf 132 = .ok (.iadd, 1) := by decide +kernel
theorem dX13_resultOf_133 : decode cX13_resultOf 133 = .ok (.ireturn, 1) := by decide +kernel
theorem dX13_result_0 : decode cX13_result 0 = .ok (.aload_n 0, 1) := by decide +kernel
theorem dX13_result_1 : decode cX13_result 1 = .ok (.iconst 0, 1) := by decide +kernel
theorem dX13_result_2 : decode cX13_result 2 = .ok (.putfield 1, 3) := by decide +kernel
theorem dX13_result_5 : decode cX13_result 5 = .ok (.aload_n 0, 1) := by decide +kernel
theorem dX13_result_6 : decode cX13_result 6 = .ok (.iload_n 1, 1) := by decide +kernel
theorem dX13_result_7 : decode cX13_result 7 = .ok (.invokevirtual 286, 3) := by decide +kernel
theorem dX13_result_10 : decode cX13_result 10 = .ok (.ifCond .eq 29, 3) := by decide +kernel
theorem dX13_result_13 : decode cX13_result 13 = .ok (.aload_n 0, 1) := by decide +kernel
theorem dX13_result_14 : decode cX13_result 14 = .ok (.getfield 34, 3) := by decide +kernel
theorem dX13_result_17 : decode cX13_result 17 = .ok (.iload_n 1, 1) := by decide +kernel
theorem dX13_result_18 : decode cX13_result 18 = .ok (.aaload, 1) := by decide +kernel
theorem dX13_result_19 : decode cX13_result 19 = .ok (.getfield 289, 3) := by decide +kernel
theorem dX13_result_22 : decode cX13_result 22 = .ok (.iconst 2, 1) := by decide +kernel
theorem dX13_result_23 : decode cX13_result 23 = .ok (.if_icmp .ne 16, 3) := by decide +kernel
theorem dX13_result_26 : decode cX13_result 26 = .ok (.aload_n 0, 1) := by decide +kernel
theorem dX13_result_27 : decode cX13_result 27 = .ok (.aload_n 0, 1) := by decide +kernel
theorem dX13_result_28 : decode cX13_result 28 = .ok (.getfield 34, 3) := by decide +kernel
theorem dX13_result_31 : decode cX13_result 31 = .ok (.iload_n 1, 1) := by decide +kernel
theorem dX13_result_32 : decode cX13_result 32 = .ok (.aaload, 1) := by decide +kernel
theorem dX13_result_33 : decode cX13_result 33 = .ok (.invokevirtual 405, 3) := by decide +kernel
theorem dX13_result_36 : decode cX13_result 36 = .ok (.goto 4, 3) := by decide +kernel
theorem dX13_result_39 : decode cX13_result 39 = .ok (.iconst (-1), 1) := by decide +kernel
theorem dX13_result_40 : decode cX13_result 40 = .ok (.ireturn, 1) := by decide +kernel
theorem dX13_lacks_0 : decode cX13_lacks 0 = .ok (.aload_n 0, 1) := by decide +kernel
theorem dX13_lacks_1 : decode cX13_lacks 1 = .ok (.iconst 0, 1) := by decide +kernel
theorem dX13_lacks_2 : decode cX13_lacks 2 = .ok (.putfield 1, 3) := by decide +kernel
theorem dX13_lacks_5 : decode cX13_lacks 5 = .ok (.aload_n 0, 1) := by decide +kernel
theorem dX13_lacks_6 : decode cX13_lacks 6 = .ok (.iload_n 1, 1) := by decide +kernel
theorem dX13_lacks_7 : decode cX13_lacks 7 = .ok (.invokevirtual 286, 3) := by decide +kernel
theorem dX13_lacks_10 : decode cX13_lacks 10 = .ok (.ifCond .eq 42, 3) := by decide +kernel
theorem dX13_lacks_13 : decode cX13_lacks 13 = .ok (.aload_n 0, 1) := by decide +kernel
theorem dX13_lacks_14 : decode cX13_lacks 14 = .ok (.getfield 34, 3) := by decide +kernel
theorem dX13_lacks_17 : decode cX13_lacks 17 = .ok (.iload_n 1, 1) := by decide +kernel
theorem dX13_lacks_18 : decode cX13_lacks 18 = .ok (.aaload, 1) := by decide +kernel
theorem dX13_lacks_19 : decode cX13_lacks 19 = .ok (.getfield 289, 3) := by decide +kernel
theorem dX13_lacks_22 : decode cX13_lacks 22 = .ok (.iconst 2, 1) := by decide +kernel
theorem dX13_lacks_23 : decode cX13_lacks 23 = .ok (.if_icmp .ne 29, 3) := by decide +kernel
theorem dX13_lacks_26 : decode cX13_lacks 26 = .ok (.iload_n 2, 1) := by decide +kernel
theorem dX13_lacks_27 : decode cX13_lacks 27 = .ok (.ifCond .lt 25, 3) := by decide +kernel
theorem dX13_lacks_30 : decode cX13_lacks 30 = .ok (.iload_n 2, 1) := by decide +kernel
theorem dX13_lacks_31 : decode cX13_lacks 31 = .ok (.aload_n 0, 1) := by decide +kernel
theorem dX13_lacks_32 : decode cX13_lacks 32 = .ok (.getfield 250, 3) := by decide +kernel
theorem dX13_lacks_35 : decode cX13_lacks 35 = .ok (.if_icmp .ge 17, 3) := by decide +kernel
theorem dX13_lacks_38 : decode cX13_lacks 38 = .ok (.aload_n 0, 1) := by decide +kernel
theorem dX13_lacks_39 : decode cX13_lacks 39 = .ok (.aload_n 0, 1) := by decide +kernel
theorem dX13_lacks_40 : decode cX13_lacks 40 = .ok (.getfield 34, 3) := by decide +kernel
theorem dX13_lacks_43 : decode cX13_lacks 43 = .ok (.iload_n 1, 1) := by decide +kernel
theorem dX13_lacks_44 : decode cX13_lacks 44 = .ok (.aaload, 1) := by decide +kernel
theorem dX13_lacks_45 : decode cX13_lacks 45 = .ok (.iload_n 2, 1) := by decide +kernel
theorem dX13_lacks_46 : decode cX13_lacks 46 = .ok (.invokevirtual 401, 3) := by decide +kernel
theorem dX13_lacks_49 : decode cX13_lacks 49 = .ok (.goto 4, 3) := by decide +kernel
theorem dX13_lacks_52 : decode cX13_lacks 52 = .ok (.iconst (-1), 1) := by decide +kernel
theorem dX13_lacks_53 : decode cX13_lacks 53 = .ok (.ireturn, 1) := by decide +kernel
theorem dX13_isAhead_0 : decode cX13_isAhead 0 = .ok (.aload_n 0, 1) := by decide +kernel
theorem dX13_isAhead_1 : decode cX13_isAhead 1 = .ok (.getfield 34, 3) := by decide +kernel
theorem dX13_isAhead_4 : decode cX13_isAhead 4 = .ok (.iload_n 1, 1) := by decide +kernel
theorem dX13_isAhead_5 : decode cX13_isAhead 5 = .ok (.aaload, 1) := by decide +kernel
theorem dX13_isAhead_6 : decode cX13_isAhead 6 = .ok (.astore_n 3, 1) := by decide +kernel
theorem dX13_isAhead_7 : decode cX13_isAhead 7 = .ok (.aload_n 0, 1) := by decide +kernel
theorem dX13_isAhead_8 : decode cX13_isAhead 8 = .ok (.getfield 34, 3) := by decide +kernel
theorem dX13_isAhead_11 : decode cX13_isAhead 11 = .ok (.iload_n 2, 1) := by decide +kernel
theorem dX13_isAhead_12 : decode cX13_isAhead 12 = .ok (.aaload, 1) := by decide +kernel
theorem dX13_isAhead_13 : decode cX13_isAhead 13 = .ok (.astore 4, 2) := by decide +kernel
theorem dX13_isAhead_15 : decode cX13_isAhead 15 = .ok (.aload_n 3, 1) := by decide +kernel
theorem dX13_isAhead_16 : decode cX13_isAhead 16 = .ok (.getfield 289, 3) := by decide +kernel
theorem dX13_isAhead_19 : decode cX13_isAhead 19 = .ok (.iconst 2, 1) := by decide +kernel
theorem dX13_isAhead_20 : decode cX13_isAhead 20 = .ok (.if_icmp .ne 7, 3) := by decide +kernel
theorem dX13_isAhead_23 : decode cX13_isAhead 23 = .ok (.iconst 0, 1) := by decide +kernel
theorem dX13_isAhead_24 : decode cX13_isAhead 24 = .ok (.goto 27, 3) := by decide +kernel
theorem dX13_isAhead_27 : decode cX13_isAhead 27 = .ok (.aload_n 3, 1) := by decide +kernel
theorem dX13_isAhead_28 : decode cX13_isAhead 28 = .ok (.getfield 289, 3) := by decide +kernel
theorem dX13_isAhead_31 : decode cX13_isAhead 31 = .ok (.iconst 1, 1) := by decide +kernel
theorem dX13_isAhead_32 : decode cX13_isAhead 32 = .ok (.if_icmp .ne 7, 3) := by decide +kernel
theorem dX13_isAhead_35 : decode cX13_isAhead 35 = .ok (.iconst 1, 1) := by decide +kernel
theorem dX13_isAhead_36 : decode cX13_isAhead 36 = .ok (.goto 15, 3) := by decide +kernel
theorem dX13_isAhead_39 : decode cX13_isAhead 39 = .ok (.aload_n 3, 1) := by decide +kernel
theorem dX13_isAhead_40 : decode cX13_isAhead 40 = .ok (.getfield 289, 3) := by decide +kernel
theorem dX13_isAhead_43 : decode cX13_isAhead 43 = .ok (.ifCond .ne 7, 3) := by decide +kernel
theorem dX13_isAhead_46 : decode cX13_isAhead 46 = .ok (.iconst 2, 1) := by decide +kernel
theorem dX13_isAhead_47 : decode cX13_isAhead 47 = .ok (.goto 4, 3) := by decide +kernel
theorem dX13_isAhead_50 : decode cX13_isAhead 50 = .ok (.iconst 3, 1) := by decide +kernel
theorem dX13_isAhead_51 : decode cX13_isAhead 51 = .ok (.istore 5, 2) := by decide +kernel
theorem dX13_isAhead_53 : decode cX13_isAhead 53 = .ok (.aload 4, 2) := by decide +kernel
theorem dX13_isAhead_55 : decode cX13_isAhead 55 = .ok (.getfield 289, 3) := by decide +kernel
theorem dX13_isAhead_58 : decode cX13_isAhead 58 = .ok (.iconst 2, 1) := by decide +kernel
theorem dX13_isAhead_59 : decode cX13_isAhead 59 = .ok (.if_icmp .ne 7, 3) := by decide +kernel
theorem dX13_isAhead_62 : decode cX13_isAhead 62 = .ok (.iconst 0, 1) := by decide +kernel
theorem dX13_isAhead_63 : decode cX13_isAhead 63 = .ok (.goto 29, 3) := by decide +kernel
theorem dX13_isAhead_66 : decode cX13_isAhead 66 = .ok (.aload 4, 2) := by decide +kernel
theorem dX13_isAhead_68 : decode cX13_isAhead 68 = .ok (.getfield 289, 3) := by decide +kernel
theorem dX13_isAhead_71 : decode cX13_isAhead 71 = .ok (.iconst 1, 1) := by decide +kernel
theorem dX13_isAhead_72 : decode cX13_isAhead 72 = .ok (.if_icmp .ne 7, 3) := by decide +kernel
theorem dX13_isAhead_75 : decode cX13_isAhead 75 = .ok (.iconst 1, 1) := by decide +kernel
theorem dX13_isAhead_76 : decode cX13_isAhead 76 = .ok (.goto 16, 3) := by decide +kernel
theorem dX13_isAhead_79 : decode cX13_isAhead 79 = .ok (.aload 4, 2) := by decide +kernel
theorem dX13_isAhead_81 : decode cX13_isAhead 81 = .ok (.getfield 289, 3) := by decide +kernel
theorem dX13_isAhead_84 : decode cX13_isAhead 84 = .ok (.ifCond .ne 7, 3) := by decide +kernel
theorem dX13_isAhead_87 : decode cX13_isAhead 87 = .ok (.iconst 2, 1) := by decide +kernel
theorem dX13_isAhead_88 : decode cX13_isAhead 88 = .ok (.goto 4, 3) := by decide +kernel
theorem dX13_isAhead_91 : decode cX13_isAhead 91 = .ok (.iconst 3, 1) := by decide +kernel
theorem dX13_isAhead_92 : decode cX13_isAhead 92 = .ok (.istore 6, 2) := by decide +kernel
theorem dX13_isAhead_94 : decode cX13_isAhead 94 = .ok (.iload 5, 2) := by decide +kernel
theorem dX13_isAhead_96 : decode cX13_isAhead 96 = .ok (.iload 6, 2) := by decide +kernel
theorem dX13_isAhead_98 : decode cX13_isAhead 98 = .ok (.if_icmp .eq 16, 3) := by decide +kernel
theorem dX13_isAhead_101 : decode cX13_isAhead 101 = .ok (.iload 5, 2) := by decide +kernel
theorem dX13_isAhead_103 : decode cX13_isAhead 103 = .ok (.iload 6, 2) := by decide +kernel
theorem dX13_isAhead_105 : decode cX13_isAhead 105 = .ok (.if_icmp .ge 7, 3) := by decide +kernel
theorem dX13_isAhead_108 : decode cX13_isAhead 108 = .ok (.iconst 1, 1) := by decide +kernel
theorem dX13_isAhead_109 : decode cX13_isAhead 109 = .ok (.goto 4, 3) := by decide +kernel
theorem dX13_isAhead_112 : decode cX13_isAhead 112 = .ok (.iconst 0, 1) := by decide +kernel
theorem dX13_isAhead_113 : decode cX13_isAhead 113 = .ok (.ireturn, 1) := by decide +kernel
theorem dX13_isAhead_114 : decode cX13_isAhead 114 = .ok (.iload 5, 2) := by decide +kernel
theorem dX13_isAhead_116 : decode cX13_isAhead 116 = .ok (.ifCond .ne 11, 3) := by decide +kernel
theorem dX13_isAhead_119 : decode cX13_isAhead 119 = .ok (.aload_n 0, 1) := by decide +kernel
theorem dX13_isAhead_120 : decode cX13_isAhead 120 = .ok (.aload_n 3, 1) := by decide +kernel
theorem dX13_isAhead_121 : decode cX13_isAhead 121 = .ok (.invokevirtual 405, 3) := by decide +kernel
theorem dX13_isAhead_124 : decode cX13_isAhead 124 = .ok (.goto 19, 3) := by decide +kernel
theorem dX13_isAhead_127 : decode cX13_isAhead 127 = .ok (.iload 5, 2) := by decide +kernel
theorem dX13_isAhead_129 : decode cX13_isAhead 129 = .ok (.iconst 1, 1) := by decide +kernel
theorem dX13_isAhead_130 : decode cX13_isAhead 130 = .ok (.if_icmp .ne 12, 3) := by decide +kernel
theorem dX13_isAhead_133 : decode cX13_isAhead 133 = .ok (.aload_n 0, 1) := by decide +kernel
theorem dX13_isAhead_134 : decode cX13_isAhead 134 = .ok (.aload_n 3, 1) := by decide +kernel
theorem dX13_isAhead_135 : decode cX13_isAhead 135 = .ok (.invokevirtual 391, 3) := by decide +kernel
theorem dX13_isAhead_138 : decode cX13_isAhead 138 = .ok (.ineg, 1) := by decide +kernel
theorem dX13_isAhead_139 : decode cX13_isAhead 139 = .ok (.goto 4, 3) := by decide +kernel
theorem dX13_isAhead_142 : decode cX13_isAhead 142 = .ok (.iconst 0, 1) := by decide +kernel
theorem dX13_isAhead_143 : decode cX13_isAhead 143 = .ok (.istore 7, 2) := by decide +kernel
theorem dX13_isAhead_145 : decode cX13_isAhead 145 = .ok (.iload 5, 2) := by decide +kernel
theorem dX13_isAhead_147 : decode cX13_isAhead 147 = .ok (.ifCond .ne 12, 3) := by decide +kernel
theorem dX13_isAhead_150 : decode cX13_isAhead 150 = .ok (.aload_n 0, 1) := by decide +kernel
theorem dX13_isAhead_151 : decode cX13_isAhead 151 = .ok (.aload 4, 2) := by decide +kernel
theorem dX13_isAhead_153 : decode cX13_isAhead 153 = .ok (.invokevirtual 405, 3) := by decide +kernel
theorem dX13_isAhead_156 : decode cX13_isAhead 156 = .ok (.goto 20, 3) := by decide +kernel
theorem dX13_isAhead_159 : decode cX13_isAhead 159 = .ok (.iload 5, 2) := by decide +kernel
theorem dX13_isAhead_161 : decode cX13_isAhead 161 = .ok (.iconst 1, 1) := by decide +kernel
theorem dX13_isAhead_162 : decode cX13_isAhead 162 = .ok (.if_icmp .ne 13, 3) := by decide +kernel
theorem dX13_isAhead_165 : decode cX13_isAhead 165 = .ok (.aload_n 0, 1) := by decide +kernel
theorem dX13_isAhead_166 : decode cX13_isAhead 166 = .ok (.aload 4, 2) := by decide +kernel
theorem dX13_isAhead_168 : decode cX13_isAhead 168 = .ok (.invokevirtual 391, 3) := by decide +kernel
theorem dX13_isAhead_171 : decode cX13_isAhead 171 = .ok (.ineg, 1) := by decide +kernel
theorem dX13_isAhead_172 : decode cX13_isAhead 172 = .ok (.goto 4, 3) := by decide +kernel
theorem dX13_isAhead_175 : decode cX13_isAhead 175 = .ok (.iconst 0, 1) := by decide +kernel
theorem dX13_isAhead_176 : decode cX13_isAhead 176 = .ok (.istore 8, 2) := by decide +kernel
theorem dX13_isAhead_178 : decode cX13_isAhead 178 = .ok (.iload 7, 2) := by decide +kernel
theorem dX13_isAhead_180 : decode cX13_isAhead 180 = .ok (.iload 8, 2) := by decide +kernel
theorem dX13_isAhead_182 : decode cX13_isAhead 182 = .ok (.if_icmp .eq 18, 3) := by decide +kernel
theorem dX13_isAhead_185 : decode cX13_isAhead 185 = .ok (.iload 7, 2) := by decide +kernel
theorem dX13_isAhead_187 : decode cX13_isAhead 187 = .ok (.iload 8, 2) := by decide +kernel
theorem dX13_isAhead_189 : decode cX13_isAhead 189 = .ok (.if_icmp .ge 7, 3) := by decide +kernel
theorem dX13_isAhead_192 : decode cX13_isAhead 192 = .ok (.iconst 1, 1) := by decide +kernel
theorem dX13_isAhead_193 : decode cX13_isAhead 193 = .ok (.goto 17, 3) := by decide +kernel
theorem dX13_isAhead_196 : decode cX13_isAhead 196 = .ok (.iconst 0, 1) := by decide +kernel
theorem dX13_isAhead_197 : decode cX13_isAhead 197 = .ok (.goto 13, 3) := by decide +kernel
theorem dX13_isAhead_200 : decode cX13_isAhead 200 = .ok (.iload_n 1, 1) := by decide +kernel
theorem dX13_isAhead_201 : decode cX13_isAhead 201 = .ok (.iload_n 2, 1) := by decide +kernel
theorem dX13_isAhead_202 : decode cX13_isAhead 202 = .ok (.if_icmp .ge 7, 3) := by decide +kernel
theorem dX13_isAhead_205 : decode cX13_isAhead 205 = .ok (.iconst 1, 1) := by decide +kernel
theorem dX13_isAhead_206 : decode cX13_isAhead 206 = .ok (.goto 4, 3) := by decide +kernel
theorem dX13_isAhead_209 : decode cX13_isAhead 209 = .ok (.iconst 0, 1) := by decide +kernel
theorem dX13_isAhead_210 : decode cX13_isAhead 210 = .ok (.ireturn, 1) := by decide +kernel
theorem dX13_place_0 : decode cX13_place 0 = .ok (.aload_n 0, 1) := by decide +kernel
theorem dX13_place_1 : decode cX13_place 1 = .ok (.iconst 0, 1) := by decide +kernel
theorem dX13_place_2 : decode cX13_place 2 = .ok (.putfield 1, 3) := by decide +kernel
theorem dX13_place_5 : decode cX13_place 5 = .ok (.iconst 0, 1) := by decide +kernel
theorem dX13_place_6 : decode cX13_place 6 = .ok (.istore_n 2, 1) := by decide +kernel
theorem dX13_place_7 : decode cX13_place 7 = .ok (.iload_n 2, 1) := by decide +kernel
theorem dX13_place_8 : decode cX13_place 8 = .ok (.aload_n 0, 1) := by decide +kernel
theorem dX13_place_9 : decode cX13_place 9 = .ok (.getfield 94, 3) := by decide +kernel
theorem dX13_place_12 : decode cX13_place 12 = .ok (.if_icmp .ge 60, 3) := by decide +kernel
theorem dX13_place_15 : decode cX13_place 15 = .ok (.iconst 0, 1) := by decide +kernel
theorem dX13_place_16 : decode cX13_place 16 = .ok (.istore_n 3, 1) := by decide +kernel
theorem dX13_place_17 : decode cX13_place 17 = .ok (.iconst 0, 1) := by decide +kernel
theorem dX13_place_18 : decode cX13_place 18 = .ok (.istore 4, 2) := by decide +kernel
theorem dX13_place_20 : decode cX13_place 20 = .ok (.iload 4, 2) := by decide +kernel
theorem dX13_place_22 : decode cX13_place 22 = .ok (.aload_n 0, 1) := by decide +kernel
theorem dX13_place_23 : decode cX13_place 23 = .ok (.getfield 94, 3) := by decide +kernel
theorem dX13_place_26 : decode cX13_place 26 = .ok (.if_icmp .ge 33, 3) := by decide +kernel
theorem dX13_place_29 : decode cX13_place 29 = .ok (.iload_n 3, 1) := by decide +kernel
theorem dX13_place_30 : decode cX13_place 30 = .ok (.iload 4, 2) := by decide +kernel
theorem dX13_place_32 : decode cX13_place 32 = .ok (.iload_n 2, 1) := by decide +kernel
theorem dX13_place_33 : decode cX13_place 33 = .ok (.if_icmp .eq 17, 3) := by decide +kernel
theorem dX13_place_36 : decode cX13_place 36 = .ok (.aload_n 0, 1) := by decide +kernel
theorem dX13_place_37 : decode cX13_place 37 = .ok (.iload 4, 2) := by decide +kernel
theorem dX13_place_39 : decode cX13_place 39 = .ok (.iload_n 2, 1) := by decide +kernel
theorem dX13_place_40 : decode cX13_place 40 = .ok (.invokevirtual 408, 3) := by decide +kernel
theorem dX13_place_43 : decode cX13_place 43 = .ok (.ifCond .eq 7, 3) := by decide +kernel
theorem dX13_place_46 : decode cX13_place 46 = .ok (.iconst 1, 1) := by decide +kernel
theorem dX13_place_47 : decode cX13_place 47 = .ok (.goto 4, 3) := by decide +kernel
theorem dX13_place_50 : decode cX13_place 50 = .ok (.iconst 0, 1) := by decide +kernel
theorem dX13_place_51 : decode cX13_place 51 = .ok (.iadd, 1) := by decide +kernel
theorem dX13_place_52 : decode cX13_place 52 = .ok (.istore_n 3, 1) := by decide +kernel
theorem dX13_place_53 : decode cX13_place 53 = .ok (.iinc 4 1, 3) := by decide +kernel
theorem dX13_place_56 : decode cX13_place 56 = .ok (.goto (-36), 3) := by decide +kernel
theorem dX13_place_59 : decode cX13_place 59 = .ok (.iload_n 3, 1) := by decide +kernel
theorem dX13_place_60 : decode cX13_place 60 = .ok (.iload_n 1, 1) := by decide +kernel
theorem dX13_place_61 : decode cX13_place 61 = .ok (.if_icmp .ne 5, 3) := by decide +kernel
theorem dX13_place_64 : decode cX13_place 64 = .ok (.iload_n 2, 1) := by decide +kernel
theorem dX13_place_65 : decode cX13_place 65 = .ok (.ireturn, 1) := by decide +kernel
theorem dX13_place_66 : decode cX13_place 66 = .ok (.iinc 2 1, 3) := by decide +kernel
theorem dX13_place_69 : decode cX13_place 69 = .ok (.goto (-62), 3) := by decide +kernel
theorem dX13_place_72 : decode cX13_place 72 = .ok (.iconst (-1), 1) := by decide +kernel
theorem dX13_place_73 : decode cX13_place 73 = .ok (.ireturn, 1) := by decide +kernel
theorem dX13_came_0 : decode cX13_came 0 = .ok (.aload_n 0, 1) := by decide +kernel
theorem dX13_came_1 : decode cX13_came 1 = .ok (.iconst 0, 1) := by decide +kernel
theorem dX13_came_2 : decode cX13_came 2 = .ok (.putfield 1, 3) := by decide +kernel
theorem dX13_came_5 : decode cX13_came 5 = .ok (.iload_n 1, 1) := by decide +kernel
theorem dX13_came_6 : decode cX13_came 6 = .ok (.ifCond .lt 11, 3) := by decide +kernel
theorem dX13_came_9 : decode cX13_came 9 = .ok (.iload_n 1, 1) := by decide +kernel
theorem dX13_came_10 : decode cX13_came 10 = .ok (.aload_n 0, 1) := by decide +kernel
theorem dX13_came_11 : decode cX13_came 11 = .ok (.getfield 91, 3) := by decide +kernel
theorem dX13_came_14 : decode cX13_came 14 = .ok (.if_icmp .le 5, 3) := by decide +kernel
theorem dX13_came_17 : decode cX13_came 17 = .ok (.iconst (-1), 1) := by decide +kernel
theorem dX13_came_18 : decode cX13_came 18 = .ok (.ireturn, 1) := by decide +kernel
theorem dX13_came_19 : decode cX13_came 19 = .ok (.iconst 0, 1) := by decide +kernel
theorem dX13_came_20 : decode cX13_came 20 = .ok (.istore_n 3, 1) := by decide +kernel
theorem dX13_came_21 : decode cX13_came 21 = .ok (.iconst 0, 1) := by decide +kernel
theorem dX13_came_22 : decode cX13_came 22 = .ok (.istore 4, 2) := by decide +kernel
theorem dX13_came_24 : decode cX13_came 24 = .ok (.iload 4, 2) := by decide +kernel
theorem dX13_came_26 : decode cX13_came 26 = .ok (.aload_n 0, 1) := by decide +kernel
theorem dX13_came_27 : decode cX13_came 27 = .ok (.getfield 94, 3) := by decide +kernel
theorem dX13_came_30 : decode cX13_came 30 = .ok (.if_icmp .ge 49, 3) := by decide +kernel
theorem dX13_came_33 : decode cX13_came 33 = .ok (.iload_n 3, 1) := by decide +kernel
theorem dX13_came_34 : decode cX13_came 34 = .ok (.aload_n 0, 1) := by decide +kernel
theorem dX13_came_35 : decode cX13_came 35 = .ok (.getfield 34, 3) := by decide +kernel
theorem dX13_came_38 : decode cX13_came 38 = .ok (.iload 4, 2) := by decide +kernel
theorem dX13_came_40 : decode cX13_came 40 = .ok (.aaload, 1) := by decide +kernel
theorem dX13_came_41 : decode cX13_came 41 = .ok (.getfield 335, 3) := by decide +kernel
theorem dX13_came_44 : decode cX13_came 44 = .ok (.iload_n 1, 1) := by decide +kernel
theorem dX13_came_45 : decode cX13_came 45 = .ok (.iaload, 1) := by decide +kernel
theorem dX13_came_46 : decode cX13_came 46 = .ok (.iconst (-1), 1) := by decide +kernel
theorem dX13_came_47 : decode cX13_came 47 = .ok (.if_icmp .eq 23, 3) := by decide +kernel
theorem dX13_came_50 : decode cX13_came 50 = .ok (.aload_n 0, 1) := by decide +kernel
theorem dX13_came_51 : decode cX13_came 51 = .ok (.getfield 34, 3) := by decide +kernel
theorem dX13_came_54 : decode cX13_came 54 = .ok (.iload 4, 2) := by decide +kernel
theorem dX13_came_56 : decode cX13_came 56 = .ok (.aaload, 1) := by decide +kernel
theorem dX13_came_57 : decode cX13_came 57 = .ok (.getfield 335, 3) := by decide +kernel
theorem dX13_came_60 : decode cX13_came 60 = .ok (.iload_n 1, 1) := by decide +kernel
theorem dX13_came_61 : decode cX13_came 61 = .ok (.iaload, 1) := by decide +kernel
theorem dX13_came_62 : decode cX13_came 62 = .ok (.iload_n 2, 1) := by decide +kernel
theorem dX13_came_63 : decode cX13_came 63 = .ok (.if_icmp .gt 7, 3) := by decide +kernel
theorem dX13_came_66 : decode cX13_came 66 = .ok (.iconst 1, 1) := by decide +kernel
theorem dX13_came_67 : decode cX13_came 67 = .ok (.goto 4, 3) := by decide +kernel
theorem dX13_came_70 : decode cX13_came 70 = .ok (.iconst 0, 1) := by decide +kernel
theorem dX13_came_71 : decode cX13_came 71 = .ok (.iadd, 1) := by decide +kernel
theorem dX13_came_72 : decode cX13_came 72 = .ok (.istore_n 3, 1) := by decide +kernel
theorem dX13_came_73 : decode cX13_came 73 = .ok (.iinc 4 1, 3) := by decide +kernel
theorem dX13_came_76 : decode cX13_came 76 = .ok (.goto (-52), 3) := by decide +kernel
theorem dX13_came_79 : decode cX13_came 79 = .ok (.iload_n 3, 1) := by decide +kernel
theorem dX13_came_80 : decode cX13_came 80 = .ok (.ireturn, 1) := by decide +kernel
theorem dX13_spot_0 : decode cX13_spot 0 = .ok (.aload_n 0, 1) := by decide +kernel
theorem dX13_spot_1 : decode cX13_spot 1 = .ok (.iconst 0, 1) := by decide +kernel
theorem dX13_spot_2 : decode cX13_spot 2 = .ok (.putfield 1, 3) := by decide +kernel
theorem dX13_spot_5 : decode cX13_spot 5 = .ok (.aload_n 0, 1) := by decide +kernel
theorem dX13_spot_6 : decode cX13_spot 6 = .ok (.iload_n 1, 1) := by decide +kernel
theorem dX13_spot_7 : decode cX13_spot 7 = .ok (.invokevirtual 286, 3) := by decide +kernel
theorem dX13_spot_10 : decode cX13_spot 10 = .ok (.ifCond .eq 15, 3) := by decide +kernel
theorem dX13_spot_13 : decode cX13_spot 13 = .ok (.iload_n 2, 1) := by decide +kernel
theorem dX13_spot_14 : decode cX13_spot 14 = .ok (.ifCond .lt 11, 3) := by decide +kernel
theorem dX13_spot_17 : decode cX13_spot 17 = .ok (.iload_n 2, 1) := by decide +kernel
theorem dX13_spot_18 : decode cX13_spot 18 = .ok (.aload_n 0, 1) := by decide +kernel
theorem dX13_spot_19 : decode cX13_spot 19 = .ok (.getfield 100, 3) := by decide +kernel
theorem dX13_spot_22 : decode cX13_spot 22 = .ok (.if_icmp .lt 5, 3) := by decide +kernel
theorem dX13_spot_25 : decode cX13_spot 25 = .ok (.iconst (-1), 1) := by decide +kernel
theorem dX13_spot_26 : decode cX13_spot 26 = .ok (.ireturn, 1) := by decide +kernel
theorem dX13_spot_27 : decode cX13_spot 27 = .ok (.aload_n 0, 1) := by decide +kernel
theorem dX13_spot_28 : decode cX13_spot 28 = .ok (.getfield 34, 3) := by decide +kernel
theorem dX13_spot_31 : decode cX13_spot 31 = .ok (.iload_n 1, 1) := by decide +kernel
theorem dX13_spot_32 : decode cX13_spot 32 = .ok (.aaload, 1) := by decide +kernel
theorem dX13_spot_33 : decode cX13_spot 33 = .ok (.astore 4, 2) := by decide +kernel
theorem dX13_spot_35 : decode cX13_spot 35 = .ok (.iconst 0, 1) := by decide +kernel
theorem dX13_spot_36 : decode cX13_spot 36 = .ok (.istore 5, 2) := by decide +kernel
theorem dX13_spot_38 : decode cX13_spot 38 = .ok (.iload 5, 2) := by decide +kernel
theorem dX13_spot_40 : decode cX13_spot 40 = .ok (.aload 4, 2) := by decide +kernel
theorem dX13_spot_42 : decode cX13_spot 42 = .ok (.getfield 385, 3) := by decide +kernel
theorem dX13_spot_45 : decode cX13_spot 45 = .ok (.if_icmp .ge 21, 3) := by decide +kernel
theorem dX13_spot_48 : decode cX13_spot 48 = .ok (.aload 4, 2) := by decide +kernel
theorem dX13_spot_50 : decode cX13_spot 50 = .ok (.getfield 382, 3) := by decide +kernel
theorem dX13_spot_53 : decode cX13_spot 53 = .ok (.iload 5, 2) := by decide +kernel
theorem dX13_spot_55 : decode cX13_spot 55 = .ok (.iaload, 1) := by decide +kernel
theorem dX13_spot_56 : decode cX13_spot 56 = .ok (.iload_n 2, 1) := by decide +kernel
theorem dX13_spot_57 : decode cX13_spot 57 = .ok (.if_icmp .gt 9, 3) := by decide +kernel
theorem dX13_spot_60 : decode cX13_spot 60 = .ok (.iinc 5 1, 3) := by decide +kernel
theorem dX13_spot_63 : decode cX13_spot 63 = .ok (.goto (-25), 3) := by decide +kernel
theorem dX13_spot_66 : decode cX13_spot 66 = .ok (.iload 5, 2) := by decide +kernel
theorem dX13_spot_68 : decode cX13_spot 68 = .ok (.ifCond .le 16, 3) := by decide +kernel
theorem dX13_spot_71 : decode cX13_spot 71 = .ok (.aload 4, 2) := by decide +kernel
theorem dX13_spot_73 : decode cX13_spot 73 = .ok (.getfield 388, 3) := by decide +kernel
theorem dX13_spot_76 : decode cX13_spot 76 = .ok (.iload 5, 2) := by decide +kernel
theorem dX13_spot_78 : decode cX13_spot 78 = .ok (.iconst 1, 1) := by decide +kernel
theorem dX13_spot_79 : decode cX13_spot 79 = .ok (.isub, 1) := by decide +kernel
theorem dX13_spot_80 : decode cX13_spot 80 = .ok (.iaload, 1) := by decide +kernel
theorem dX13_spot_81 : decode cX13_spot 81 = .ok (.goto 4, 3) := by decide +kernel
theorem dX13_spot_84 : decode cX13_spot 84 = .ok (.iconst 0, 1) := by decide +kernel
theorem dX13_spot_85 : decode cX13_spot 85 = .ok (.istore 6, 2) := by decide +kernel
theorem dX13_spot_87 : decode cX13_spot 87 = .ok (.iload 5, 2) := by decide +kernel
theorem dX13_spot_89 : decode cX13_spot 89 = .ok (.ifCond .le 24, 3) := by decide +kernel
theorem dX13_spot_92 : decode cX13_spot 92 = .ok (.iload 6, 2) := by decide +kernel
theorem dX13_spot_94 : decode cX13_spot 94 = .ok (.bipush 60, 2) := by decide +kernel
theorem dX13_spot_96 : decode cX13_spot 96 = .ok (.iload_n 2, 1) := by decide +kernel
theorem dX13_spot_97 : decode cX13_spot 97 = .ok (.aload 4, 2) := by decide +kernel
theorem dX13_spot_99 : decode cX13_spot 99 = .ok (.getfield 382, 3) := by decide +kernel
theorem dX13_spot_102 : decode cX13_spot 102 = .ok (.iload 5, 2) := by decide +kernel
theorem dX13_spot_104 : decode cX13_spot 104 = .ok (.iconst 1, 1) := by decide +kernel
theorem dX13_spot_105 : decode cX13_spot 105 = .ok (.isub, 1) := by decide +kernel
theorem dX13_spot_106 : decode cX13_spot 106 = .ok (.iaload, 1) := by decide +kernel
theorem dX13_spot_107 : decode cX13_spot 107 = .ok (.isub, 1) := by decide +kernel
theorem dX13_spot_108 : decode cX13_spot 108 = .ok (.imul, 1) := by decide +kernel
theorem dX13_spot_109 : decode cX13_spot 109 = .ok (.iadd, 1) := by decide +kernel
theorem dX13_spot_110 : decode cX13_spot 110 = .ok (.goto 28, 3) := by decide +kernel
theorem dX13_spot_113 : decode cX13_spot 113 = .ok (.iload_n 2, 1) := by decide +kernel
theorem dX13_spot_114 : decode cX13_spot 114 = .ok (.aload 4, 2) := by decide +kernel
theorem dX13_spot_116 : decode cX13_spot 116 = .ok (.getfield 333, 3) := by decide +kernel
theorem dX13_spot_119 : decode cX13_spot 119 = .ok (.if_icmp .ge 7, 3) := by decide +kernel
theorem dX13_spot_122 : decode cX13_spot 122 = .ok (.iconst 0, 1) := by decide +kernel
theorem dX13_spot_123 : decode cX13_spot 123 = .ok (.goto 15, 3) := by decide +kernel
theorem dX13_spot_126 : decode cX13_spot 126 = .ok (.bipush 60, 2) := by decide +kernel
theorem dX13_spot_128 : decode cX13_spot 128 = .ok (.iload_n 2, 1) := by decide +kernel
theorem dX13_spot_129 : decode cX13_spot 129 = .ok (.aload 4, 2) := by decide +kernel
theorem dX13_spot_131 : decode cX13_spot 131 = .ok (.getfield 333, 3) := by decide +kernel
theorem dX13_spot_134 : decode cX13_spot 134 = .ok (.isub, 1) := by decide +kernel
theorem dX13_spot_135 : decode cX13_spot 135 = .ok (.iconst 1, 1) := by decide +kernel
theorem dX13_spot_136 : decode cX13_spot 136 = .ok (.iadd, 1) := by decide +kernel
theorem dX13_spot_137 : decode cX13_spot 137 = .ok (.imul, 1) := by decide +kernel
theorem dX13_spot_138 : decode cX13_spot 138 = .ok (.istore 7, 2) := by decide +kernel
theorem dX13_spot_140 : decode cX13_spot 140 = .ok (.iload 5, 2) := by decide +kernel
theorem dX13_spot_142 : decode cX13_spot 142 = .ok (.aload 4, 2) := by decide +kernel
theorem dX13_spot_144 : decode cX13_spot 144 = .ok (.getfield 385, 3) := by decide +kernel
theorem dX13_spot_147 : decode cX13_spot 147 = .ok (.if_icmp .ge 32, 3) := by decide +kernel
theorem dX13_spot_150 : decode cX13_spot 150 = .ok (.iload 6, 2) := by decide +kernel
theorem dX13_spot_152 : decode cX13_spot 152 = .ok (.aload 4, 2) := by decide +kernel
theorem dX13_spot_154 : decode cX13_spot 154 = .ok (.getfield 388, 3) := by decide +kernel
theorem dX13_spot_157 : decode cX13_spot 157 = .ok (.iload 5, 2) := by decide +kernel
theorem dX13_spot_159 : decode cX13_spot 159 = .ok (.iaload, 1) := by decide +kernel
theorem dX13_spot_160 : decode cX13_spot 160 = .ok (.bipush 60, 2) := by decide +kernel
theorem dX13_spot_162 : decode cX13_spot 162 = .ok (.aload 4, 2) := by decide +kernel
theorem dX13_spot_164 : decode cX13_spot 164 = .ok (.getfield 382, 3) := by decide +kernel
theorem dX13_spot_167 : decode cX13_spot 167 = .ok (.iload 5, 2) := by decide +kernel
theorem dX13_spot_169 : decode cX13_spot 169 = .ok (.iaload, 1) := by decide +kernel
theorem dX13_spot_170 : decode cX13_spot 170 = .ok (.iload_n 2, 1) := by decide +kernel
theorem dX13_spot_171 : decode cX13_spot 171 = .ok (.isub, 1) := by decide +kernel
theorem dX13_spot_172 : decode cX13_spot 172 = .ok (.imul, 1) := by decide +kernel
theorem dX13_spot_173 : decode cX13_spot 173 = .ok (.isub, 1) := by decide +kernel
theorem dX13_spot_174 : decode cX13_spot 174 = .ok (.invokestatic 363, 3) := by decide +kernel
theorem dX13_spot_177 : decode cX13_spot 177 = .ok (.istore 6, 2) := by decide +kernel
theorem dX13_spot_179 : decode cX13_spot 179 = .ok (.iload 7, 2) := by decide +kernel
theorem dX13_spot_181 : decode cX13_spot 181 = .ok (.iload 5, 2) := by decide +kernel
theorem dX13_spot_183 : decode cX13_spot 183 = .ok (.aload 4, 2) := by decide +kernel
theorem dX13_spot_185 : decode cX13_spot 185 = .ok (.getfield 385, 3) := by decide +kernel
theorem dX13_spot_188 : decode cX13_spot 188 = .ok (.if_icmp .ge 14, 3) := by decide +kernel
theorem dX13_spot_191 : decode cX13_spot 191 = .ok (.aload 4, 2) := by decide +kernel
theorem dX13_spot_193 : decode cX13_spot 193 = .ok (.getfield 388, 3) := by decide +kernel
theorem dX13_spot_196 : decode cX13_spot 196 = .ok (.iload 5, 2) := by decide +kernel
theorem dX13_spot_198 : decode cX13_spot 198 = .ok (.iaload, 1) := by decide +kernel
theorem dX13_spot_199 : decode cX13_spot 199 = .ok (.goto 7, 3) := by decide +kernel
theorem dX13_spot_202 : decode cX13_spot 202 = .ok (.aload_n 0, 1) := by decide +kernel
theorem dX13_spot_203 : decode cX13_spot 203 = .ok (.invokevirtual 412, 3) := by decide +kernel
theorem dX13_spot_206 : decode cX13_spot 206 = .ok (.invokestatic 398, 3) := by decide +kernel
theorem dX13_spot_209 : decode cX13_spot 209 = .ok (.istore 7, 2) := by decide +kernel
theorem dX13_spot_211 : decode cX13_spot 211 = .ok (.iload_n 3, 1) := by decide +kernel
theorem dX13_spot_212 : decode cX13_spot 212 = .ok (.ifCond .eq 8, 3) := by decide +kernel
theorem dX13_spot_215 : decode cX13_spot 215 = .ok (.iload 7, 2) := by decide +kernel
theorem dX13_spot_217 : decode cX13_spot 217 = .ok (.goto 5, 3) := by decide +kernel
theorem dX13_spot_220 : decode cX13_spot 220 = .ok (.iload 6, 2) := by decide +kernel
theorem dX13_spot_222 : decode cX13_spot 222 = .ok (.ireturn, 1) := by decide +kernel
theorem dX13_signs_0 : decode cX13_signs 0 = .ok (.aload_n 0, 1) := by decide +kernel
theorem dX13_signs_1 : decode cX13_signs 1 = .ok (.iconst 0, 1) := by decide +kernel
theorem dX13_signs_2 : decode cX13_signs 2 = .ok (.putfield 1, 3) := by decide +kernel
theorem dX13_signs_5 : decode cX13_signs 5 = .ok (.aload_n 0, 1) := by decide +kernel
theorem dX13_signs_6 : decode cX13_signs 6 = .ok (.iload_n 1, 1) := by decide +kernel
theorem dX13_signs_7 : decode cX13_signs 7 = .ok (.invokevirtual 286, 3) := by decide +kernel
theorem dX13_signs_10 : decode cX13_signs 10 = .ok (.ifCond .eq 15, 3) := by decide +kernel
theorem dX13_signs_13 : decode cX13_signs 13 = .ok (.aload_n 0, 1) := by decide +kernel
theorem dX13_signs_14 : decode cX13_signs 14 = .ok (.getfield 34, 3) := by decide +kernel
theorem dX13_signs_17 : decode cX13_signs 17 = .ok (.iload_n 1, 1) := by decide +kernel
theorem dX13_signs_18 : decode cX13_signs 18 = .ok (.aaload, 1) := by decide +kernel
theorem dX13_signs_19 : decode cX13_signs 19 = .ok (.getfield 385, 3) := by decide +kernel
theorem dX13_signs_22 : decode cX13_signs 22 = .ok (.goto 4, 3) := by decide +kernel
theorem dX13_signs_25 : decode cX13_signs 25 = .ok (.iconst (-1), 1) := by decide +kernel
theorem dX13_signs_26 : decode cX13_signs 26 = .ok (.ireturn, 1) := by decide +kernel
theorem dX13_replay_0 : decode cX13_replay 0 = .ok (.aload_n 0, 1) := by decide +kernel
theorem dX13_replay_1 : decode cX13_replay 1 = .ok (.iconst 0, 1) := by decide +kernel
theorem dX13_replay_2 : decode cX13_replay 2 = .ok (.putfield 1, 3) := by decide +kernel
theorem dX13_replay_5 : decode cX13_replay 5 = .ok (.aload_n 0, 1) := by decide +kernel
theorem dX13_replay_6 : decode cX13_replay 6 = .ok (.iload_n 1, 1) := by decide +kernel
theorem dX13_replay_7 : decode cX13_replay 7 = .ok (.invokevirtual 286, 3) := by decide +kernel
theorem dX13_replay_10 : decode cX13_replay 10 = .ok (.ifCond .eq 11, 3) := by decide +kernel
theorem dX13_replay_13 : decode cX13_replay 13 = .ok (.aload_n 0, 1) := by decide +kernel
theorem dX13_replay_14 : decode cX13_replay 14 = .ok (.iload_n 2, 1) := by decide +kernel
theorem dX13_replay_15 : decode cX13_replay 15 = .ok (.invokevirtual 279, 3) := by decide +kernel
theorem dX13_replay_18 : decode cX13_replay 18 = .ok (.ifCond .ne 9, 3) := by decide +kernel
theorem dX13_replay_21 : decode cX13_replay 21 = .ok (.aload_n 0, 1) := by decide +kernel
theorem dX13_replay_22 : decode cX13_replay 22 = .ok (.iconst 1, 1) := by decide +kernel
theorem dX13_replay_23 : decode cX13_replay 23 = .ok (.invokevirtual 121, 3) := by decide +kernel
theorem dX13_replay_26 : decode cX13_replay 26 = .ok (.ireturn, 1) := by decide +kernel
theorem dX13_replay_27 : decode cX13_replay 27 = .ok (.iload_n 3, 1) := by decide +kernel
theorem dX13_replay_28 : decode cX13_replay 28 = .ok (.iconst 0, 1) := by decide +kernel
theorem dX13_replay_29 : decode cX13_replay 29 = .ok (.iconst 3, 1) := by decide +kernel
theorem dX13_replay_30 : decode cX13_replay 30 = .ok (.invokestatic 125, 3) := by decide +kernel
theorem dX13_replay_33 : decode cX13_replay 33 = .ok (.ifCond .ne 9, 3) := by decide +kernel
theorem dX13_replay_36 : decode cX13_replay 36 = .ok (.aload_n 0, 1) := by decide +kernel
theorem dX13_replay_37 : decode cX13_replay 37 = .ok (.iconst 2, 1) := by decide +kernel
theorem dX13_replay_38 : decode cX13_replay 38 = .ok (.invokevirtual 121, 3) := by decide +kernel
theorem dX13_replay_41 : decode cX13_replay 41 = .ok (.ireturn, 1) := by decide +kernel
theorem dX13_replay_42 : decode cX13_replay 42 = .ok (.aload_n 0, 1) := by decide +kernel
theorem dX13_replay_43 : decode cX13_replay 43 = .ok (.getfield 34, 3) := by decide +kernel
theorem dX13_replay_46 : decode cX13_replay 46 = .ok (.iload_n 1, 1) := by decide +kernel
theorem dX13_replay_47 : decode cX13_replay 47 = .ok (.aaload, 1) := by decide +kernel
theorem dX13_replay_48 : decode cX13_replay 48 = .ok (.astore 4, 2) := by decide +kernel
theorem dX13_replay_50 : decode cX13_replay 50 = .ok (.aload_n 0, 1) := by decide +kernel
theorem dX13_replay_51 : decode cX13_replay 51 = .ok (.getfield 54, 3) := by decide +kernel
theorem dX13_replay_54 : decode cX13_replay 54 = .ok (.aload 4, 2) := by decide +kernel
theorem dX13_replay_56 : decode cX13_replay 56 = .ok (.getfield 361, 3) := by decide +kernel
theorem dX13_replay_59 : decode cX13_replay 59 = .ok (.aload 4, 2) := by decide +kernel
theorem dX13_replay_61 : decode cX13_replay 61 = .ok (.getfield 369, 3) := by decide +kernel
theorem dX13_replay_64 : decode cX13_replay 64 = .ok (.aload 4, 2) := by decide +kernel
theorem dX13_replay_66 : decode cX13_replay 66 = .ok (.getfield 415, 3) := by decide +kernel
theorem dX13_replay_69 : decode cX13_replay 69 = .ok (.aload 4, 2) := by decide +kernel
theorem dX13_replay_71 : decode cX13_replay 71 = .ok (.getfield 333, 3) := by decide +kernel
theorem dX13_replay_74 : decode cX13_replay 74 = .ok (.iload_n 2, 1) := by decide +kernel
theorem dX13_replay_75 : decode cX13_replay 75 = .ok (.invokevirtual 282, 3) := by decide +kernel
theorem dX13_replay_78 : decode cX13_replay 78 = .ok (.iconst 0, 1) := by decide +kernel
theorem dX13_replay_79 : decode cX13_replay 79 = .ok (.istore 5, 2) := by decide +kernel
theorem dX13_replay_81 : decode cX13_replay 81 = .ok (.iload 5, 2) := by decide +kernel
theorem dX13_replay_83 : decode cX13_replay 83 = .ok (.aload_n 0, 1) := by decide +kernel
theorem dX13_replay_84 : decode cX13_replay 84 = .ok (.getfield 100, 3) := by decide +kernel
theorem dX13_replay_87 : decode cX13_replay 87 = .ok (.if_icmp .ge 19, 3) := by decide +kernel
theorem dX13_replay_90 : decode cX13_replay 90 = .ok (.aload_n 0, 1) := by decide +kernel
theorem dX13_replay_91 : decode cX13_replay 91 = .ok (.aload_n 0, 1) := by decide +kernel
theorem dX13_replay_92 : decode cX13_replay 92 = .ok (.getfield 54, 3) := by decide +kernel
theorem dX13_replay_95 : decode cX13_replay 95 = .ok (.iload 5, 2) := by decide +kernel
theorem dX13_replay_97 : decode cX13_replay 97 = .ok (.invokevirtual 375, 3) := by decide +kernel
theorem dX13_replay_100 : decode cX13_replay 100 = .ok (.iinc 5 1, 3) := by decide +kernel
theorem dX13_replay_103 : decode cX13_replay 103 = .ok (.goto (-22), 3) := by decide +kernel
theorem dX13_replay_106 : decode cX13_replay 106 = .ok (.aload_n 0, 1) := by decide +kernel
theorem dX13_replay_107 : decode cX13_replay 107 = .ok (.iload_n 3, 1) := by decide +kernel
theorem dX13_replay_108 : decode cX13_replay 108 = .ok (.ifCond .ne 14, 3) := by decide +kernel
theorem dX13_replay_111 : decode cX13_replay 111 = .ok (.aload_n 0, 1) := by decide +kernel
theorem dX13_replay_112 : decode cX13_replay 112 = .ok (.aload_n 0, 1) := by decide +kernel
theorem dX13_replay_113 : decode cX13_replay 113 = .ok (.getfield 54, 3) := by decide +kernel
theorem dX13_replay_116 : decode cX13_replay 116 = .ok (.invokevirtual 391, 3) := by decide +kernel
theorem dX13_replay_119 : decode cX13_replay 119 = .ok (.goto 46, 3) := by decide +kernel
theorem dX13_replay_122 : decode cX13_replay 122 = .ok (.iload_n 3, 1) := by decide +kernel
theorem dX13_replay_123 : decode cX13_replay 123 = .ok (.iconst 1, 1) := by decide +kernel
theorem dX13_replay_124 : decode cX13_replay 124 = .ok (.if_icmp .ne 14, 3) := by decide +kernel
theorem dX13_replay_127 : decode cX13_replay 127 = .ok (.aload_n 0, 1) := by decide +kernel
theorem dX13_replay_128 : decode cX13_replay 128 = .ok (.getfield 54, 3) := by decide +kernel
theorem dX13_replay_131 : decode cX13_replay 131 = .ok (.iconst 0, 1) := by decide +kernel
theorem dX13_replay_132 : decode cX13_replay 132 = .ok (.invokevirtual 324, 3) := by decide +kernel
theorem dX13_replay_135 : decode cX13_replay 135 = .ok (.goto 30, 3) := by decide +kernel
theorem dX13_replay_138 : decode cX13_replay 138 = .ok (.iload_n 3, 1) := by decide +kernel
theorem dX13_replay_139 : decode cX13_replay 139 = .ok (.iconst 2, 1) := by decide +kernel
theorem dX13_replay_140 : decode cX13_replay 140 = .ok (.if_icmp .ne 13, 3) := by decide +kernel
theorem dX13_replay_143 : decode cX13_replay 143 = .ok (.aload_n 0, 1) := by decide +kernel
theorem dX13_replay_144 : decode cX13_replay 144 = .ok (.getfield 54, 3) := by decide +kernel
theorem dX13_replay_147 : decode cX13_replay 147 = .ok (.getfield 289, 3) := by decide +kernel
theorem dX13_replay_150 : decode cX13_replay 150 = .ok (.goto 15, 3) := by decide +kernel
theorem dX13_replay_153 : decode cX13_replay 153 = .ok (.aload_n 0, 1) := by decide +kernel
theorem dX13_replay_154 : decode cX13_replay 154 = .ok (.getfield 54, 3) := by decide +kernel
theorem dX13_replay_157 : decode cX13_replay 157 = .ok (.getfield 335, 3) := by decide +kernel
theorem dX13_replay_160 : decode cX13_replay 160 = .ok (.aload_n 0, 1) := by decide +kernel
theorem dX13_replay_161 : decode cX13_replay 161 = .ok (.getfield 91, 3) := by decide +kernel
theorem dX13_replay_164 : decode cX13_replay 164 = .ok (.iaload, 1) := by decide +kernel
theorem dX13_replay_165 : decode cX13_replay 165 = .ok (.invokevirtual 129, 3) := by decide +kernel
theorem dX13_replay_168 : decode cX13_replay 168 = .ok (.ireturn, 1) := by decide +kernel
theorem dX13_count_0 : decode cX13_count 0 = .ok (.aload_n 0, 1) := by decide +kernel
theorem dX13_count_1 : decode cX13_count 1 = .ok (.iconst 0, 1) := by decide +kernel
theorem dX13_count_2 : decode cX13_count 2 = .ok (.putfield 1, 3) := by decide +kernel
theorem dX13_count_5 : decode cX13_count 5 = .ok (.iload_n 1, 1) := by decide +kernel
theorem dX13_count_6 : decode cX13_count 6 = .ok (.tableswitch 77 0 6 #[42, 47, 52, 57, 62, 67, 72], 42) := by decide +kernel
theorem dX13_count_48 : decode cX13_count 48 = .ok (.aload_n 0, 1) := by decide +kernel
theorem dX13_count_49 : decode cX13_count 49 = .ok (.getfield 91, 3) := by decide +kernel
theorem dX13_count_52 : decode cX13_count 52 = .ok (.ireturn, 1) := by decide +kernel
theorem dX13_count_53 : decode cX13_count 53 = .ok (.aload_n 0, 1) := by decide +kernel
theorem dX13_count_54 : decode cX13_count 54 = .ok (.getfield 94, 3) := by decide +kernel
theorem dX13_count_57 : decode cX13_count 57 = .ok (.ireturn, 1) := by decide +kernel
theorem dX13_count_58 : decode cX13_count 58 = .ok (.aload_n 0, 1) := by decide +kernel
theorem dX13_count_59 : decode cX13_count 59 = .ok (.getfield 227, 3) := by decide +kernel
theorem dX13_count_62 : decode cX13_count 62 = .ok (.ireturn, 1) := by decide +kernel
theorem dX13_count_63 : decode cX13_count 63 = .ok (.aload_n 0, 1) := by decide +kernel
theorem dX13_count_64 : decode cX13_count 64 = .ok (.getfield 250, 3) := by decide +kernel
theorem dX13_count_67 : decode cX13_count 67 = .ok (.ireturn, 1) := by decide +kernel
theorem dX13_count_68 : decode cX13_count 68 = .ok (.aload_n 0, 1) := by decide +kernel
theorem dX13_count_69 : decode cX13_count 69 = .ok (.getfield 100, 3) := by decide +kernel
theorem dX13_count_72 : decode cX13_count 72 = .ok (.ireturn, 1) := by decide +kernel
theorem dX13_count_73 : decode cX13_count 73 = .ok (.aload_n 0, 1) := by decide +kernel
theorem dX13_count_74 : decode cX13_count 74 = .ok (.invokevirtual 412, 3) := by decide +kernel
theorem dX13_count_77 : decode cX13_count 77 = .ok (.ireturn, 1) := by decide +kernel
theorem dX13_count_78 : decode cX13_count 78 = .ok (.aload_n 0, 1) := by decide +kernel
theorem dX13_count_79 : decode cX13_count 79 = .ok (.getfield 221, 3) := by decide +kernel
theorem dX13_count_82 : decode cX13_count 82 = .ok (.ireturn, 1) := by decide +kernel
theorem dX13_count_83 : decode cX13_count 83 = .ok (.iconst (-1), 1) := by decide +kernel
theorem dX13_count_84 : decode cX13_count 84 = .ok (.ireturn, 1) := by decide +kernel
theorem dX13_trouble_0 : decode cX13_trouble 0 = .ok (.aload_n 0, 1) := by decide +kernel
theorem dX13_trouble_1 : decode cX13_trouble 1 = .ok (.iconst 0, 1) := by decide +kernel
theorem dX13_trouble_2 : decode cX13_trouble 2 = .ok (.putfield 1, 3) := by decide +kernel
theorem dX13_trouble_5 : decode cX13_trouble 5 = .ok (.aload_n 0, 1) := by decide +kernel
theorem dX13_trouble_6 : decode cX13_trouble 6 = .ok (.getfield 7, 3) := by decide +kernel
theorem dX13_trouble_9 : decode cX13_trouble 9 = .ok (.ireturn, 1) := by decide +kernel
