theorem dX9_init_0 : decode cX9_init 0 = .ok (.aload_n 0, 1) := by decide +kernel
theorem dX9_init_1 : decode cX9_init 1 = .ok (.invokespecial 1, 3) := by decide +kernel
theorem dX9_init_4 : decode cX9_init 4 = .ok (.aload_n 0, 1) := by decide +kernel
theorem dX9_init_5 : decode cX9_init 5 = .ok (.iconst 4, 1) := by decide +kernel
theorem dX9_init_6 : decode cX9_init 6 = .ok (.newarray .int, 2) := by decide +kernel
theorem dX9_init_8 : decode cX9_init 8 = .ok (.putfield 7, 3) := by decide +kernel
theorem dX9_init_11 : decode cX9_init 11 = .ok (.aload_n 0, 1) := by decide +kernel
theorem dX9_init_12 : decode cX9_init 12 = .ok (.iconst 4, 1) := by decide +kernel
theorem dX9_init_13 : decode cX9_init 13 = .ok (.newarray .int, 2) := by decide +kernel
theorem dX9_init_15 : decode cX9_init 15 = .ok (.putfield 13, 3) := by decide +kernel
theorem dX9_init_18 : decode cX9_init 18 = .ok (.aload_n 0, 1) := by decide +kernel
theorem dX9_init_19 : decode cX9_init 19 = .ok (.sipush 240, 3) := by decide +kernel
theorem dX9_init_22 : decode cX9_init 22 = .ok (.newarray .int, 2) := by decide +kernel
theorem dX9_init_24 : decode cX9_init 24 = .ok (.putfield 16, 3) := by decide +kernel
theorem dX9_init_27 : decode cX9_init 27 = .ok (.aload_n 0, 1) := by decide +kernel
theorem dX9_init_28 : decode cX9_init 28 = .ok (.bipush 60, 2) := by decide +kernel
theorem dX9_init_30 : decode cX9_init 30 = .ok (.newarray .int, 2) := by decide +kernel
theorem dX9_init_32 : decode cX9_init 32 = .ok (.putfield 19, 3) := by decide +kernel
theorem dX9_init_35 : decode cX9_init 35 = .ok (.aload_n 0, 1) := by decide +kernel
theorem dX9_init_36 : decode cX9_init 36 = .ok (.bipush 60, 2) := by decide +kernel
theorem dX9_init_38 : decode cX9_init 38 = .ok (.newarray .int, 2) := by decide +kernel
theorem dX9_init_40 : decode cX9_init 40 = .ok (.putfield 22, 3) := by decide +kernel
theorem dX9_init_43 : decode cX9_init 43 = .ok (.aload_n 0, 1) := by decide +kernel
theorem dX9_init_44 : decode cX9_init 44 = .ok (.bipush 16, 2) := by decide +kernel
theorem dX9_init_46 : decode cX9_init 46 = .ok (.newarray .int, 2) := by decide +kernel
theorem dX9_init_48 : decode cX9_init 48 = .ok (.putfield 25, 3) := by decide +kernel
theorem dX9_init_51 : decode cX9_init 51 = .ok (.aload_n 0, 1) := by decide +kernel
theorem dX9_init_52 : decode cX9_init 52 = .ok (.iconst 4, 1) := by decide +kernel
theorem dX9_init_53 : decode cX9_init 53 = .ok (.newarray .int, 2) := by decide +kernel
theorem dX9_init_55 : decode cX9_init 55 = .ok (.putfield 28, 3) := by decide +kernel
theorem dX9_init_58 : decode cX9_init 58 = .ok (.aload_n 0, 1) := by decide +kernel
theorem dX9_init_59 : decode cX9_init 59 = .ok (.iconst 3, 1) := by decide +kernel
theorem dX9_init_60 : decode cX9_init 60 = .ok (.newarray .int, 2) := by decide +kernel
theorem dX9_init_62 : decode cX9_init 62 = .ok (.putfield 31, 3) := by decide +kernel
theorem dX9_init_65 : decode cX9_init 65 = .ok (.aload_n 0, 1) := by decide +kernel
theorem dX9_init_66 : decode cX9_init 66 = .ok (.iconst 4, 1) := by decide +kernel
theorem dX9_init_67 : decode cX9_init 67 = .ok (.newarray .int, 2) := by decide +kernel
theorem dX9_init_69 : decode cX9_init 69 = .ok (.putfield 34, 3) := by decide +kernel
theorem dX9_init_72 : decode cX9_init 72 = .ok (.aload_n 0, 1) := by decide +kernel
theorem dX9_init_73 : decode cX9_init 73 = .ok (.iconst 4, 1) := by decide +kernel
theorem dX9_init_74 : decode cX9_init 74 = .ok (.newarray .int, 2) := by decide +kernel
theorem dX9_init_76 : decode cX9_init 76 = .ok (.putfield 37, 3) := by decide +kernel
theorem dX9_init_79 : decode cX9_init 79 = .ok (.aload_n 0, 1) := by decide +kernel
theorem dX9_init_80 : decode cX9_init 80 = .ok (.iconst 5, 1) := by decide +kernel
theorem dX9_init_81 : decode cX9_init 81 = .ok (.newarray .int, 2) := by decide +kernel
theorem dX9_init_83 : decode cX9_init 83 = .ok (.putfield 40, 3) := by decide +kernel
theorem dX9_init_86 : decode cX9_init 86 = .ok (.aload_n 0, 1) := by decide +kernel
theorem dX9_init_87 : decode cX9_init 87 = .ok (.iconst 5, 1) := by decide +kernel
theorem dX9_init_88 : decode cX9_init 88 = .ok (.newarray .int, 2) := by decide +kernel
theorem dX9_init_90 : decode cX9_init 90 = .ok (.putfield 43, 3) := by decide +kernel
theorem dX9_init_93 : decode cX9_init 93 = .ok (.aload_n 0, 1) := by decide +kernel
theorem dX9_init_94 : decode cX9_init 94 = .ok (.iconst 5, 1) := by decide +kernel
theorem dX9_init_95 : decode cX9_init 95 = .ok (.newarray .int, 2) := by decide +kernel
theorem dX9_init_97 : decode cX9_init 97 = .ok (.putfield 46, 3) := by decide +kernel
theorem dX9_init_100 : decode cX9_init 100 = .ok (.aload_n 0, 1) := by decide +kernel
theorem dX9_init_101 : decode cX9_init 101 = .ok (.iconst 4, 1) := by decide +kernel
theorem dX9_init_102 : decode cX9_init 102 = .ok (.newarray .int, 2) := by decide +kernel
theorem dX9_init_104 : decode cX9_init 104 = .ok (.putfield 49, 3) := by decide +kernel
theorem dX9_init_107 : decode cX9_init 107 = .ok (.aload_n 0, 1) := by decide +kernel
theorem dX9_init_108 : decode cX9_init 108 = .ok (.bipush 50, 2) := by decide +kernel
theorem dX9_init_110 : decode cX9_init 110 = .ok (.newarray .long, 2) := by decide +kernel
theorem dX9_init_112 : decode cX9_init 112 = .ok (.putfield 52, 3) := by decide +kernel
theorem dX9_init_115 : decode cX9_init 115 = .ok (.aload_n 0, 1) := by decide +kernel
theorem dX9_init_116 : decode cX9_init 116 = .ok (.bipush 50, 2) := by decide +kernel
theorem dX9_init_118 : decode cX9_init 118 = .ok (.newarray .long, 2) := by decide +kernel
theorem dX9_init_120 : decode cX9_init 120 = .ok (.putfield 56, 3) := by decide +kernel
theorem dX9_init_123 : decode cX9_init 123 = .ok (.aload_n 0, 1) := by decide +kernel
theorem dX9_init_124 : decode cX9_init 124 = .ok (.iconst 4, 1) := by decide +kernel
theorem dX9_init_125 : decode cX9_init 125 = .ok (.newarray .int, 2) := by decide +kernel
theorem dX9_init_127 : decode cX9_init 127 = .ok (.putfield 59, 3) := by decide +kernel
theorem dX9_init_130 : decode cX9_init 130 = .ok (.aload_n 0, 1) := by decide +kernel
theorem dX9_init_131 : decode cX9_init 131 = .ok (.iconst 4, 1) := by decide +kernel
theorem dX9_init_132 : decode cX9_init 132 = .ok (.newarray .int, 2) := by decide +kernel
theorem dX9_init_134 : decode cX9_init 134 = .ok (.putfield 62, 3) := by decide +kernel
theorem dX9_init_137 : decode cX9_init 137 = .ok (.aload_n 0, 1) := by decide +kernel
theorem dX9_init_138 : decode cX9_init 138 = .ok (.iconst 5, 1) := by decide +kernel
theorem dX9_init_139 : decode cX9_init 139 = .ok (.newarray .int, 2) := by decide +kernel
theorem dX9_init_141 : decode cX9_init 141 = .ok (.putfield 65, 3) := by decide +kernel
theorem dX9_init_144 : decode cX9_init 144 = .ok (.aload_n 0, 1) := by decide +kernel
theorem dX9_init_145 : decode cX9_init 145 = .ok (.bipush 60, 2) := by decide +kernel
theorem dX9_init_147 : decode cX9_init 147 = .ok (.newarray .int, 2) := by decide +kernel
theorem dX9_init_149 : decode cX9_init 149 = .ok (.putfield 68, 3) := by decide +kernel
theorem dX9_init_152 : decode cX9_init 152 = .ok (.aload_n 0, 1) := by decide +kernel
theorem dX9_init_153 : decode cX9_init 153 = .ok (.bipush 60, 2) := by decide +kernel
theorem dX9_init_155 : decode cX9_init 155 = .ok (.newarray .int, 2) := by decide +kernel
theorem dX9_init_157 : decode cX9_init 157 = .ok (.putfield 71, 3) := by decide +kernel
theorem dX9_init_160 : decode cX9_init 160 = .ok (.aload_n 0, 1) := by decide +kernel
theorem dX9_init_161 : decode cX9_init 161 = .ok (.bipush 60, 2) := by decide +kernel
theorem dX9_init_163 : decode cX9_init 163 = .ok (.newarray .int, 2) := by decide +kernel
theorem dX9_init_165 : decode cX9_init 165 = .ok (.putfield 74, 3) := by decide +kernel
theorem dX9_init_168 : decode cX9_init 168 = .ok (.aload_n 0, 1) := by decide +kernel
theorem dX9_init_169 : decode cX9_init 169 = .ok (.bipush 60, 2) := by decide +kernel
theorem dX9_init_171 : decode cX9_init 171 = .ok (.newarray .boolean, 2) := by decide +kernel
theorem dX9_init_173 : decode cX9_init 173 = .ok (.putfield 77, 3) := by decide +kernel
theorem dX9_init_176 : decode cX9_init 176 = .ok (.aload_n 0, 1) := by decide +kernel
theorem dX9_init_177 : decode cX9_init 177 = .ok (.bipush 60, 2) := by decide +kernel
theorem dX9_init_179 : decode cX9_init 179 = .ok (.newarray .int, 2) := by decide +kernel
theorem dX9_init_181 : decode cX9_init 181 = .ok (.putfield 81, 3) := by decide +kernel
theorem dX9_init_184 : decode cX9_init 184 = .ok (.aload_n 0, 1) := by decide +kernel
theorem dX9_init_185 : decode cX9_init 185 = .ok (.bipush 8, 2) := by decide +kernel
theorem dX9_init_187 : decode cX9_init 187 = .ok (.newarray .int, 2) := by decide +kernel
theorem dX9_init_189 : decode cX9_init 189 = .ok (.putfield 84, 3) := by decide +kernel
theorem dX9_init_192 : decode cX9_init 192 = .ok (.iconst 0, 1) := by decide +kernel
theorem dX9_init_193 : decode cX9_init 193 = .ok (.istore_n 1, 1) := by decide +kernel
theorem dX9_init_194 : decode cX9_init 194 = .ok (.iload_n 1, 1) := by decide +kernel
theorem dX9_init_195 : decode cX9_init 195 = .ok (.iconst 4, 1) := by decide +kernel
theorem dX9_init_196 : decode cX9_init 196 = .ok (.if_icmp .ge 23, 3) := by decide +kernel
theorem dX9_init_199 : decode cX9_init 199 = .ok (.aload_n 0, 1) := by decide +kernel
theorem dX9_init_200 : decode cX9_init 200 = .ok (.getfield 7, 3) := by decide +kernel
theorem dX9_init_203 : decode cX9_init 203 = .ok (.iload_n 1, 1) := by decide +kernel
theorem dX9_init_204 : decode cX9_init 204 = .ok (.iconst (-1), 1) := by decide +kernel
theorem dX9_init_205 : decode cX9_init 205 = .ok (.iastore, 1) := by decide +kernel
theorem dX9_init_206 : decode cX9_init 206 = .ok (.aload_n 0, 1) := by decide +kernel
theorem dX9_init_207 : decode cX9_init 207 = .ok (.getfield 37, 3) := by decide +kernel
theorem dX9_init_210 : decode cX9_init 210 = .ok (.iload_n 1, 1) := by decide +kernel
theorem dX9_init_211 : decode cX9_init 211 = .ok (.iconst 4, 1) := by decide +kernel
theorem dX9_init_212 : decode cX9_init 212 = .ok (.iastore, 1) := by decide +kernel
theorem dX9_init_213 : decode cX9_init 213 = .ok (.iinc 1 1, 3) := by decide +kernel
theorem dX9_init_216 : decode cX9_init 216 = .ok (.goto (-22), 3) := by decide +kernel
theorem dX9_init_219 : decode cX9_init 219 = .ok (.return_, 1) := by decide +kernel
theorem dX9_in_0 : decode cX9_in 0 = .ok (.lload_n 0, 1) := by decide +kernel
theorem dX9_in_1 : decode cX9_in 1 = .ok (.lload_n 2, 1) := by decide +kernel
theorem dX9_in_2 : decode cX9_in 2 = .ok (.lcmp, 1) := by decide +kernel
theorem dX9_in_3 : decode cX9_in 3 = .ok (.ifCond .lt 14, 3) := by decide +kernel
theorem dX9_in_6 : decode cX9_in 6 = .ok (.lload_n 0, 1) := by decide +kernel
theorem dX9_in_7 : decode cX9_in 7 = .ok (.lload 4, 2) := by decide +kernel
theorem dX9_in_9 : decode cX9_in 9 = .ok (.lcmp, 1) := by decide +kernel
theorem dX9_in_10 : decode cX9_in 10 = .ok (.ifCond .gt 7, 3) := by decide +kernel
theorem dX9_in_13 : decode cX9_in 13 = .ok (.iconst 1, 1) := by decide +kernel
theorem dX9_in_14 : decode cX9_in 14 = .ok (.goto 4, 3) := by decide +kernel
theorem dX9_in_17 : decode cX9_in 17 = .ok (.iconst 0, 1) := by decide +kernel
theorem dX9_in_18 : decode cX9_in 18 = .ok (.ireturn, 1) := by decide +kernel
theorem dX9_no_0 : decode cX9_no 0 = .ok (.ldc2_w 87, 3) := by decide +kernel
theorem dX9_no_3 : decode cX9_no 3 = .ok (.iload_n 0, 1) := by decide +kernel
theorem dX9_no_4 : decode cX9_no 4 = .ok (.i2l, 1) := by decide +kernel
theorem dX9_no_5 : decode cX9_no 5 = .ok (.lsub, 1) := by decide +kernel
theorem dX9_no_6 : decode cX9_no 6 = .ok (.lreturn, 1) := by decide +kernel
theorem dX9_isTwo_0 : decode cX9_isTwo 0 = .ok (.iload_n 0, 1) := by decide +kernel
theorem dX9_isTwo_1 : decode cX9_isTwo 1 = .ok (.i2l, 1) := by decide +kernel
theorem dX9_isTwo_2 : decode cX9_isTwo 2 = .ok (.lconst 0, 1) := by decide +kernel
theorem dX9_isTwo_3 : decode cX9_isTwo 3 = .ok (.lconst 1, 1) := by decide +kernel
theorem dX9_isTwo_4 : decode cX9_isTwo 4 = .ok (.invokestatic 89, 3) := by decide +kernel
theorem dX9_isTwo_7 : decode cX9_isTwo 7 = .ok (.ireturn, 1) := by decide +kernel
theorem dX9_met_0 : decode cX9_met 0 = .ok (.aload_n 0, 1) := by decide +kernel
theorem dX9_met_1 : decode cX9_met 1 = .ok (.iload_n 1, 1) := by decide +kernel
theorem dX9_met_2 : decode cX9_met 2 = .ok (.putfield 93, 3) := by decide +kernel
theorem dX9_met_5 : decode cX9_met 5 = .ok (.bipush (-10), 2) := by decide +kernel
theorem dX9_met_7 : decode cX9_met 7 = .ok (.iload_n 1, 1) := by decide +kernel
theorem dX9_met_8 : decode cX9_met 8 = .ok (.isub, 1) := by decide +kernel
theorem dX9_met_9 : decode cX9_met 9 = .ok (.ireturn, 1) := by decide +kernel
theorem dX9_isSheet_0 : decode cX9_isSheet 0 = .ok (.iload_n 0, 1) := by decide +kernel
theorem dX9_isSheet_1 : decode cX9_isSheet 1 = .ok (.i2l, 1) := by decide +kernel
theorem dX9_isSheet_2 : decode cX9_isSheet 2 = .ok (.lconst 0, 1) := by decide +kernel
theorem dX9_isSheet_3 : decode cX9_isSheet 3 = .ok (.ldc2_w 97, 3) := by decide +kernel
theorem dX9_isSheet_6 : decode cX9_isSheet 6 = .ok (.invokestatic 89, 3) := by decide +kernel
theorem dX9_isSheet_9 : decode cX9_isSheet 9 = .ok (.ireturn, 1) := by decide +kernel
theorem dX9_sheet_0 : decode cX9_sheet 0 = .ok (.iload_n 1, 1) := by decide +kernel
theorem dX9_sheet_1 : decode cX9_sheet 1 = .ok (.invokestatic 99, 3) := by decide +kernel
theorem dX9_sheet_4 : decode cX9_sheet 4 = .ok (.ifCond .eq 21, 3) := by decide +kernel
theorem dX9_sheet_7 : decode cX9_sheet 7 = .ok (.iload_n 2, 1) := by decide +kernel
theorem dX9_sheet_8 : decode cX9_sheet 8 = .ok (.i2l, 1) := by decide +kernel
theorem dX9_sheet_9 : decode cX9_sheet 9 = .ok (.lconst 0, 1) := by decide +kernel
theorem dX9_sheet_10 : decode cX9_sheet 10 = .ok (.ldc2_w 103, 3) := by decide +kernel
theorem dX9_sheet_13 : decode cX9_sheet 13 = .ok (.invokestatic 89, 3) := by decide +kernel
theorem dX9_sheet_16 : decode cX9_sheet 16 = .ok (.ifCond .eq 9, 3) := by decide +kernel
theorem dX9_sheet_19 : decode cX9_sheet 19 = .ok (.iload_n 3, 1) := by decide +kernel
theorem dX9_sheet_20 : decode cX9_sheet 20 = .ok (.bipush 60, 2) := by decide +kernel
theorem dX9_sheet_22 : decode cX9_sheet 22 = .ok (.if_icmp .le 6, 3) := by decide +kernel
theorem dX9_sheet_25 : decode cX9_sheet 25 = .ok (.bipush (-2), 2) := by decide +kernel
theorem dX9_sheet_27 : decode cX9_sheet 27 = .ok (.ireturn, 1) := by decide +kernel
theorem dX9_sheet_28 : decode cX9_sheet 28 = .ok (.iload_n 3, 1) := by decide +kernel
theorem dX9_sheet_29 : decode cX9_sheet 29 = .ok (.ifCond .ge 9, 3) := by decide +kernel
theorem dX9_sheet_32 : decode cX9_sheet 32 = .ok (.aload_n 0, 1) := by decide +kernel
theorem dX9_sheet_33 : decode cX9_sheet 33 = .ok (.iconst 5, 1) := by decide +kernel
theorem dX9_sheet_34 : decode cX9_sheet 34 = .ok (.invokevirtual 105, 3) := by decide +kernel
theorem dX9_sheet_37 : decode cX9_sheet 37 = .ok (.ireturn, 1) := by decide +kernel
theorem dX9_sheet_38 : decode cX9_sheet 38 = .ok (.aload_n 0, 1) := by decide +kernel
theorem dX9_sheet_39 : decode cX9_sheet 39 = .ok (.getfield 7, 3) := by decide +kernel
theorem dX9_sheet_42 : decode cX9_sheet 42 = .ok (.iload_n 1, 1) := by decide +kernel
theorem dX9_sheet_43 : decode cX9_sheet 43 = .ok (.iload_n 2, 1) := by decide +kernel
theorem dX9_sheet_44 : decode cX9_sheet 44 = .ok (.iastore, 1) := by decide +kernel
theorem dX9_sheet_45 : decode cX9_sheet 45 = .ok (.aload_n 0, 1) := by decide +kernel
theorem dX9_sheet_46 : decode cX9_sheet 46 = .ok (.getfield 13, 3) := by decide +kernel
theorem dX9_sheet_49 : decode cX9_sheet 49 = .ok (.iload_n 1, 1) := by decide +kernel
theorem dX9_sheet_50 : decode cX9_sheet 50 = .ok (.iload_n 3, 1) := by decide +kernel
theorem dX9_sheet_51 : decode cX9_sheet 51 = .ok (.iastore, 1) := by decide +kernel
theorem dX9_sheet_52 : decode cX9_sheet 52 = .ok (.iconst 0, 1) := by decide +kernel
theorem dX9_sheet_53 : decode cX9_sheet 53 = .ok (.istore 4, 2) := by decide +kernel
theorem dX9_sheet_55 : decode cX9_sheet 55 = .ok (.iload 4, 2) := by decide +kernel
theorem dX9_sheet_57 : decode cX9_sheet 57 = .ok (.iload_n 3, 1) := by decide +kernel
theorem dX9_sheet_58 : decode cX9_sheet 58 = .ok (.if_icmp .ge 22, 3) := by decide +kernel
theorem dX9_sheet_61 : decode cX9_sheet 61 = .ok (.aload_n 0, 1) := by decide +kernel
theorem dX9_sheet_62 : decode cX9_sheet 62 = .ok (.getfield 16, 3) := by decide +kernel
theorem dX9_sheet_65 : decode cX9_sheet 65 = .ok (.bipush 60, 2) := by decide +kernel
theorem dX9_sheet_67 : decode cX9_sheet 67 = .ok (.iload_n 1, 1) := by decide +kernel
theorem dX9_sheet_68 : decode cX9_sheet 68 = .ok (.imul, 1) := by decide +kernel
theorem dX9_sheet_69 : decode cX9_sheet 69 = .ok (.iload 4, 2) := by decide +kernel
theorem dX9_sheet_71 : decode cX9_sheet 71 = .ok (.iadd, 1) := by decide +kernel
theorem dX9_sheet_72 : decode cX9_sheet 72 = .ok (.iconst 0, 1) := by decide +kernel
theorem dX9_sheet_73 : decode cX9_sheet 73 = .ok (.iastore, 1) := by decide +kernel
theorem dX9_sheet_74 : decode cX9_sheet 74 = .ok (.iinc 4 1, 3) := by decide +kernel
theorem dX9_sheet_77 : decode cX9_sheet 77 = .ok (.goto (-22), 3) := by decide +kernel
theorem dX9_sheet_80 : decode cX9_sheet 80 = .ok (.iload_n 3, 1) := by decide +kernel
theorem dX9_sheet_81 : decode cX9_sheet 81 = .ok (.ireturn, 1) := by decide +kernel
theorem dX9_lose_0 : decode cX9_lose 0 = .ok (.iload_n 1, 1) := by decide +kernel
theorem dX9_lose_1 : decode cX9_lose 1 = .ok (.invokestatic 99, 3) := by decide +kernel
theorem dX9_lose_4 : decode cX9_lose 4 = .ok (.ifCond .ne 6, 3) := by decide +kernel
theorem dX9_lose_7 : decode cX9_lose 7 = .ok (.bipush (-2), 2) := by decide +kernel
theorem dX9_lose_9 : decode cX9_lose 9 = .ok (.ireturn, 1) := by decide +kernel
theorem dX9_lose_10 : decode cX9_lose 10 = .ok (.aload_n 0, 1) := by decide +kernel
theorem dX9_lose_11 : decode cX9_lose 11 = .ok (.getfield 7, 3) := by decide +kernel
theorem dX9_lose_14 : decode cX9_lose 14 = .ok (.iload_n 1, 1) := by decide +kernel
theorem dX9_lose_15 : decode cX9_lose 15 = .ok (.iaload, 1) := by decide +kernel
theorem dX9_lose_16 : decode cX9_lose 16 = .ok (.ifCond .ge 9, 3) := by decide +kernel
theorem dX9_lose_19 : decode cX9_lose 19 = .ok (.aload_n 0, 1) := by decide +kernel
theorem dX9_lose_20 : decode cX9_lose 20 = .ok (.iconst 1, 1) := by decide +kernel
theorem dX9_lose_21 : decode cX9_lose 21 = .ok (.invokevirtual 105, 3) := by decide +kernel
theorem dX9_lose_24 : decode cX9_lose 24 = .ok (.ireturn, 1) := by decide +kernel
theorem dX9_lose_25 : decode cX9_lose 25 = .ok (.aload_n 0, 1) := by decide +kernel
theorem dX9_lose_26 : decode cX9_lose 26 = .ok (.getfield 7, 3) := by decide +kernel
theorem dX9_lose_29 : decode cX9_lose 29 = .ok (.iload_n 1, 1) := by decide +kernel
theorem dX9_lose_30 : decode cX9_lose 30 = .ok (.iconst (-1), 1) := by decide +kernel
theorem dX9_lose_31 : decode cX9_lose 31 = .ok (.iastore, 1) := by decide +kernel
theorem dX9_lose_32 : decode cX9_lose 32 = .ok (.aload_n 0, 1) := by decide +kernel
theorem dX9_lose_33 : decode cX9_lose 33 = .ok (.getfield 13, 3) := by decide +kernel
theorem dX9_lose_36 : decode cX9_lose 36 = .ok (.iload_n 1, 1) := by decide +kernel
theorem dX9_lose_37 : decode cX9_lose 37 = .ok (.iaload, 1) := by decide +kernel
theorem dX9_lose_38 : decode cX9_lose 38 = .ok (.ireturn, 1) := by decide +kernel
theorem dX9_lacks_0 : decode cX9_lacks 0 = .ok (.aload_n 0, 1) := by decide +kernel
theorem dX9_lacks_1 : decode cX9_lacks 1 = .ok (.getfield 7, 3) := by decide +kernel
theorem dX9_lacks_4 : decode cX9_lacks 4 = .ok (.iload_n 1, 1) := by decide +kernel
theorem dX9_lacks_5 : decode cX9_lacks 5 = .ok (.iaload, 1) := by decide +kernel
theorem dX9_lacks_6 : decode cX9_lacks 6 = .ok (.ifCond .ge 9, 3) := by decide +kernel
theorem dX9_lacks_9 : decode cX9_lacks 9 = .ok (.aload_n 0, 1) := by decide +kernel
theorem dX9_lacks_10 : decode cX9_lacks 10 = .ok (.iconst 1, 1) := by decide +kernel
theorem dX9_lacks_11 : decode cX9_lacks 11 = .ok (.invokevirtual 105, 3) := by decide +kernel
theorem dX9_lacks_14 : decode cX9_lacks 14 = .ok (.ireturn, 1) := by decide +kernel
theorem dX9_lacks_15 : decode cX9_lacks 15 = .ok (.aload_n 0, 1) := by decide +kernel
theorem dX9_lacks_16 : decode cX9_lacks 16 = .ok (.getfield 7, 3) := by decide +kernel
theorem dX9_lacks_19 : decode cX9_lacks 19 = .ok (.iload_n 1, 1) := by decide +kernel
theorem dX9_lacks_20 : decode cX9_lacks 20 = .ok (.iaload, 1) := by decide +kernel
theorem dX9_lacks_21 : decode cX9_lacks 21 = .ok (.iload_n 2, 1) := by decide +kernel
theorem dX9_lacks_22 : decode cX9_lacks 22 = .ok (.if_icmp .eq 9, 3) := by decide +kernel
theorem dX9_lacks_25 : decode cX9_lacks 25 = .ok (.aload_n 0, 1) := by decide +kernel
theorem dX9_lacks_26 : decode cX9_lacks 26 = .ok (.iconst 3, 1) := by decide +kernel
theorem dX9_lacks_27 : decode cX9_lacks 27 = .ok (.invokevirtual 105, 3) := by decide +kernel
theorem dX9_lacks_30 : decode cX9_lacks 30 = .ok (.ireturn, 1) := by decide +kernel
theorem dX9_lacks_31 : decode cX9_lacks 31 = .ok (.iload_n 3, 1) := by decide +kernel
theorem dX9_lacks_32 : decode cX9_lacks 32 = .ok (.i2l, 1) := by decide +kernel
theorem dX9_lacks_33 : decode cX9_lacks 33 = .ok (.lconst 0, 1) := by decide +kernel
theorem dX9_lacks_34 : decode cX9_lacks 34 = .ok (.aload_n 0, 1) := by decide +kernel
theorem dX9_lacks_35 : decode cX9_lacks 35 = .ok (.getfield 13, 3) := by decide +kernel
theorem dX9_lacks_38 : decode cX9_lacks 38 = .ok (.iload_n 1, 1) := by decide +kernel
theorem dX9_lacks_39 : decode cX9_lacks 39 = .ok (.iaload, 1) := by decide +kernel
theorem dX9_lacks_40 : decode cX9_lacks 40 = .ok (.iconst 1, 1) := by decide +kernel
theorem dX9_lacks_41 : decode cX9_lacks 41 = .ok (.isub, 1) := by decide +kernel
theorem dX9_lacks_42 : decode cX9_lacks 42 = .ok (.i2l, 1) := by decide +kernel
theorem dX9_lacks_43 : decode cX9_lacks 43 = .ok (.invokestatic 89, 3) := by decide +kernel
theorem dX9_lacks_46 : decode cX9_lacks 46 = .ok (.ifCond .eq 7, 3) := by decide +kernel
theorem dX9_lacks_49 : decode cX9_lacks 49 = .ok (.iconst 0, 1) := by decide +kernel
theorem dX9_lacks_50 : decode cX9_lacks 50 = .ok (.goto 8, 3) := by decide +kernel
theorem dX9_lacks_53 : decode cX9_lacks 53 = .ok (.aload_n 0, 1) := by decide +kernel
theorem dX9_lacks_54 : decode cX9_lacks 54 = .ok (.iconst 2, 1) := by decide +kernel
theorem dX9_lacks_55 : decode cX9_lacks 55 = .ok (.invokevirtual 105, 3) := by decide +kernel
theorem dX9_lacks_58 : decode cX9_lacks 58 = .ok (.ireturn, 1) := by decide +kernel
theorem dX9_cut_0 : decode cX9_cut 0 = .ok (.iload_n 0, 1) := by decide +kernel
theorem dX9_cut_1 : decode cX9_cut 1 = .ok (.ifCond .ne 8, 3) := by decide +kernel
theorem dX9_cut_4 : decode cX9_cut 4 = .ok (.iload_n 1, 1) := by decide +kernel
theorem dX9_cut_5 : decode cX9_cut 5 = .ok (.i2b, 1) := by decide +kernel
theorem dX9_cut_6 : decode cX9_cut 6 = .ok (.goto 14, 3) := by decide +kernel
theorem dX9_cut_9 : decode cX9_cut 9 = .ok (.iload_n 0, 1) := by decide +kernel
theorem dX9_cut_10 : decode cX9_cut 10 = .ok (.iconst 1, 1) := by decide +kernel
theorem dX9_cut_11 : decode cX9_cut 11 = .ok (.if_icmp .ne 8, 3) := by decide +kernel
theorem dX9_cut_14 : decode cX9_cut 14 = .ok (.iload_n 1, 1) := by decide +kernel
theorem dX9_cut_15 : decode cX9_cut 15 = .ok (.i2s, 1) := by decide +kernel
theorem dX9_cut_16 : decode cX9_cut 16 = .ok (.goto 4, 3) := by decide +kernel
theorem dX9_cut_19 : decode cX9_cut 19 = .ok (.iload_n 1, 1) := by decide +kernel
theorem dX9_cut_20 : decode cX9_cut 20 = .ok (.ireturn, 1) := by decide +kernel
theorem dX9_lay_0 : decode cX9_lay 0 = .ok (.iload_n 1, 1) := by decide +kernel
theorem dX9_lay_1 : decode cX9_lay 1 = .ok (.invokestatic 99, 3) := by decide +kernel
theorem dX9_lay_4 : decode cX9_lay 4 = .ok (.ifCond .eq 15, 3) := by decide +kernel
theorem dX9_lay_7 : decode cX9_lay 7 = .ok (.iload_n 2, 1) := by decide +kernel
theorem dX9_lay_8 : decode cX9_lay 8 = .ok (.i2l, 1) := by decide +kernel
theorem dX9_lay_9 : decode cX9_lay 9 = .ok (.lconst 0, 1) := by decide +kernel
theorem dX9_lay_10 : decode cX9_lay 10 = .ok (.ldc2_w 103, 3) := by decide +kernel
theorem dX9_lay_13 : decode cX9_lay 13 = .ok (.invokestatic 89, 3) := by decide +kernel
theorem dX9_lay_16 : decode cX9_lay 16 = .ok (.ifCond .ne 6, 3) := by decide +kernel
theorem dX9_lay_19 : decode cX9_lay 19 = .ok (.bipush (-2), 2) := by decide +kernel
theorem dX9_lay_21 : decode cX9_lay 21 = .ok (.ireturn, 1) := by decide +kernel
theorem dX9_lay_22 : decode cX9_lay 22 = .ok (.aload_n 0, 1) := by decide +kernel
theorem dX9_lay_23 : decode cX9_lay 23 = .ok (.iload_n 1, 1) := by decide +kernel
theorem dX9_lay_24 : decode cX9_lay 24 = .ok (.iload_n 2, 1) := by decide +kernel
theorem dX9_lay_25 : decode cX9_lay 25 = .ok (.iload_n 3, 1) := by decide +kernel
theorem dX9_lay_26 : decode cX9_lay 26 = .ok (.invokevirtual 109, 3) := by decide +kernel
theorem dX9_lay_29 : decode cX9_lay 29 = .ok (.istore 5, 2) := by decide +kernel
theorem dX9_lay_31 : decode cX9_lay 31 = .ok (.iload 5, 2) := by decide +kernel
theorem dX9_lay_33 : decode cX9_lay 33 = .ok (.ifCond .eq 6, 3) := by decide +kernel
theorem dX9_lay_36 : decode cX9_lay 36 = .ok (.iload 5, 2) := by decide +kernel
theorem dX9_lay_38 : decode cX9_lay 38 = .ok (.ireturn, 1) := by decide +kernel
theorem dX9_lay_39 : decode cX9_lay 39 = .ok (.aload_n 0, 1) := by decide +kernel
theorem dX9_lay_40 : decode cX9_lay 40 = .ok (.getfield 16, 3) := by decide +kernel
theorem dX9_lay_43 : decode cX9_lay 43 = .ok (.bipush 60, 2) := by decide +kernel
theorem dX9_lay_45 : decode cX9_lay 45 = .ok (.iload_n 1, 1) := by decide +kernel
theorem dX9_lay_46 : decode cX9_lay 46 = .ok (.imul, 1) := by decide +kernel
theorem dX9_lay_47 : decode cX9_lay 47 = .ok (.iload_n 3, 1) := by decide +kernel
theorem dX9_lay_48 : decode cX9_lay 48 = .ok (.iadd, 1) := by decide +kernel
theorem dX9_lay_49 : decode cX9_lay 49 = .ok (.iload_n 2, 1) := by decide +kernel
theorem dX9_lay_50 : decode cX9_lay 50 = .ok (.iload 4, 2) := by decide +kernel
theorem dX9_lay_52 : decode cX9_lay 52 = .ok (.invokestatic 113, 3) := by decide +kernel
theorem dX9_lay_55 : decode cX9_lay 55 = .ok (.iastore, 1) := by decide +kernel
theorem dX9_lay_56 : decode cX9_lay 56 = .ok (.iconst 1, 1) := by decide +kernel
theorem dX9_lay_57 : decode cX9_lay 57 = .ok (.ireturn, 1) := by decide +kernel
theorem dX9_get_0 : decode cX9_get 0 = .ok (.iload_n 1, 1) := by decide +kernel
theorem dX9_get_1 : decode cX9_get 1 = .ok (.invokestatic 99, 3) := by decide +kernel
theorem dX9_get_4 : decode cX9_get 4 = .ok (.ifCond .eq 25, 3) := by decide +kernel
theorem dX9_get_7 : decode cX9_get 7 = .ok (.iload_n 2, 1) := by decide +kernel
theorem dX9_get_8 : decode cX9_get 8 = .ok (.i2l, 1) := by decide +kernel
theorem dX9_get_9 : decode cX9_get 9 = .ok (.lconst 0, 1) := by decide +kernel
theorem dX9_get_10 : decode cX9_get 10 = .ok (.ldc2_w 103, 3) := by decide +kernel
theorem dX9_get_13 : decode cX9_get 13 = .ok (.invokestatic 89, 3) := by decide +kernel
theorem dX9_get_16 : decode cX9_get 16 = .ok (.ifCond .eq 13, 3) := by decide +kernel
theorem dX9_get_19 : decode cX9_get 19 = .ok (.aload_n 0, 1) := by decide +kernel
theorem dX9_get_20 : decode cX9_get 20 = .ok (.iload_n 1, 1) := by decide +kernel
theorem dX9_get_21 : decode cX9_get 21 = .ok (.iload_n 2, 1) := by decide +kernel
theorem dX9_get_22 : decode cX9_get 22 = .ok (.iload_n 3, 1) := by decide +kernel
theorem dX9_get_23 : decode cX9_get 23 = .ok (.invokevirtual 109, 3) := by decide +kernel
theorem dX9_get_26 : decode cX9_get 26 = .ok (.ifCond .eq 6, 3) := by decide +kernel
theorem dX9_get_29 : decode cX9_get 29 = .ok (.ldc 117, 2) := by decide +kernel
theorem dX9_get_31 : decode cX9_get 31 = .ok (.ireturn, 1) := by decide +kernel
theorem dX9_get_32 : decode cX9_get 32 = .ok (.aload_n 0, 1) := by decide +kernel
theorem dX9_get_33 : decode cX9_get 33 = .ok (.getfield 16, 3) := by decide +kernel
theorem dX9_get_36 : decode cX9_get 36 = .ok (.bipush 60, 2) := by decide +kernel
theorem dX9_get_38 : decode cX9_get 38 = .ok (.iload_n 1, 1) := by decide +kernel
theorem dX9_get_39 : decode cX9_get 39 = .ok (.imul, 1) := by decide +kernel
theorem dX9_get_40 : decode cX9_get 40 = .ok (.iload_n 3, 1) := by decide +kernel
theorem dX9_get_41 : decode cX9_get 41 = .ok (.iadd, 1) := by decide +kernel
theorem dX9_get_42 : decode cX9_get 42 = .ok (.iaload, 1) := by decide +kernel
theorem dX9_get_43 : decode cX9_get 43 = .ok (.ireturn, 1) := by decide +kernel
theorem dX9_copy_0 : decode cX9_copy 0 = .ok (.iload_n 1, 1) := by decide +kernel
theorem dX9_copy_1 : decode cX9_copy 1 = .ok (.invokestatic 99, 3) := by decide +kernel
theorem dX9_copy_4 : decode cX9_copy 4 = .ok (.ifCond .eq 10, 3) := by decide +kernel
theorem dX9_copy_7 : decode cX9_copy 7 = .ok (.iload_n 3, 1) := by decide +kernel
theorem dX9_copy_8 : decode cX9_copy 8 = .ok (.invokestatic 99, 3) := by decide +kernel
theorem dX9_copy_11 : decode cX9_copy 11 = .ok (.ifCond .ne 6, 3) := by decide +kernel
theorem dX9_copy_14 : decode cX9_copy 14 = .ok (.bipush (-2), 2) := by decide +kernel
theorem dX9_copy_16 : decode cX9_copy 16 = .ok (.ireturn, 1) := by decide +kernel
theorem dX9_copy_17 : decode cX9_copy 17 = .ok (.aload_n 0, 1) := by decide +kernel
theorem dX9_copy_18 : decode cX9_copy 18 = .ok (.getfield 7, 3) := by decide +kernel
theorem dX9_copy_21 : decode cX9_copy 21 = .ok (.iload_n 1, 1) := by decide +kernel
theorem dX9_copy_22 : decode cX9_copy 22 = .ok (.iaload, 1) := by decide +kernel
theorem dX9_copy_23 : decode cX9_copy 23 = .ok (.ifCond .lt 12, 3) := by decide +kernel
theorem dX9_copy_26 : decode cX9_copy 26 = .ok (.aload_n 0, 1) := by decide +kernel
theorem dX9_copy_27 : decode cX9_copy 27 = .ok (.getfield 7, 3) := by decide +kernel
theorem dX9_copy_30 : decode cX9_copy 30 = .ok (.iload_n 3, 1) := by decide +kernel
theorem dX9_copy_31 : decode cX9_copy 31 = .ok (.iaload, 1) := by decide +kernel
theorem dX9_copy_32 : decode cX9_copy 32 = .ok (.ifCond .ge 9, 3) := by decide +kernel
theorem dX9_copy_35 : decode cX9_copy 35 = .ok (.aload_n 0, 1) := by decide +kernel
theorem dX9_copy_36 : decode cX9_copy 36 = .ok (.iconst 1, 1) := by decide +kernel
theorem dX9_copy_37 : decode cX9_copy 37 = .ok (.invokevirtual 105, 3) := by decide +kernel
theorem dX9_copy_40 : decode cX9_copy 40 = .ok (.ireturn, 1) := by decide +kernel
theorem dX9_copy_41 : decode cX9_copy 41 = .ok (.aload_n 0, 1) := by decide +kernel
theorem dX9_copy_42 : decode cX9_copy 42 = .ok (.getfield 7, 3) := by decide +kernel
theorem dX9_copy_45 : decode cX9_copy 45 = .ok (.iload_n 1, 1) := by decide +kernel
theorem dX9_copy_46 : decode cX9_copy 46 = .ok (.iaload, 1) := by decide +kernel
theorem dX9_copy_47 : decode cX9_copy 47 = .ok (.aload_n 0, 1) := by decide +kernel
theorem dX9_copy_48 : decode cX9_copy 48 = .ok (.getfield 7, 3) := by decide +kernel
theorem dX9_copy_51 : decode cX9_copy 51 = .ok (.iload_n 3, 1) := by decide +kernel
theorem dX9_copy_52 : decode cX9_copy 52 = .ok (.iaload, 1) := by decide +kernel
theorem dX9_copy_53 : decode cX9_copy 53 = .ok (.if_icmp .eq 9, 3) := by decide +kernel
theorem dX9_copy_56 : decode cX9_copy 56 = .ok (.aload_n 0, 1) := by decide +kernel
theorem dX9_copy_57 : decode cX9_copy 57 = .ok (.iconst 4, 1) := by decide +kernel
theorem dX9_copy_58 : decode cX9_copy 58 = .ok (.invokevirtual 105, 3) := by decide +kernel
theorem dX9_copy_61 : decode cX9_copy 61 = .ok (.ireturn, 1) := by decide +kernel
theorem dX9_copy_62 : decode cX9_copy 62 = .ok (.iload_n 2, 1) := by decide +kernel
theorem dX9_copy_63 : decode cX9_copy 63 = .ok (.ifCond .lt 48, 3) := by decide +kernel
theorem dX9_copy_66 : decode cX9_copy 66 = .ok (.iload 4, 2) := by decide +kernel
theorem dX9_copy_68 : decode cX9_copy 68 = .ok (.ifCond .lt 43, 3) := by decide +kernel
theorem dX9_copy_71 : decode cX9_copy 71 = .ok (.iload 5, 2) := by decide +kernel
theorem dX9_copy_73 : decode cX9_copy 73 = .ok (.ifCond .lt 38, 3) := by decide +kernel
theorem dX9_copy_76 : decode cX9_copy 76 = .ok (.iload_n 2, 1) := by decide +kernel
theorem dX9_copy_77 : decode cX9_copy 77 = .ok (.i2l, 1) := by decide +kernel
theorem dX9_copy_78 : decode cX9_copy 78 = .ok (.iload 5, 2) := by decide +kernel
theorem dX9_copy_80 : decode cX9_copy 80 = .ok (.i2l, 1) := by decide +kernel
theorem dX9_copy_81 : decode cX9_copy 81 = .ok (.ladd, 1) := by decide +kernel
theorem dX9_copy_82 : decode cX9_copy 82 = .ok (.aload_n 0, 1) := by decide +kernel
theorem dX9_copy_83 : decode cX9_copy 83 = .ok (.getfield 13, 3) := by decide +kernel
theorem dX9_copy_86 : decode cX9_copy 86 = .ok (.iload_n 1, 1) := by decide +kernel
theorem dX9_copy_87 : decode cX9_copy 87 = .ok (.iaload, 1) := by decide +kernel
theorem dX9_copy_88 : decode cX9_copy 88 = .ok (.i2l, 1) := by decide +kernel
theorem dX9_copy_89 : decode cX9_copy 89 = .ok (.lcmp, 1) := by decide +kernel
theorem dX9_copy_90 : decode cX9_copy 90 = .ok (.ifCond .gt 21, 3) := by decide +kernel
theorem dX9_copy_93 : decode cX9_copy 93 = .ok (.iload 4, 2) := by decide +kernel
theorem dX9_copy_95 : decode cX9_copy 95 = .ok (.i2l, 1) := by decide +kernel
theorem dX9_copy_96 : decode cX9_copy 96 = .ok (.iload 5, 2) := by decide +kernel
theorem dX9_copy_98 : decode cX9_copy 98 = .ok (.i2l, 1) := by decide +kernel
theorem dX9_copy_99 : decode cX9_copy 99 = .ok (.ladd, 1) := by decide +kernel
theorem dX9_copy_100 : decode cX9_copy 100 = .ok (.aload_n 0, 1) := by decide +kernel
theorem dX9_copy_101 : decode cX9_copy 101 = .ok (.getfield 13, 3) := by decide +kernel
theorem dX9_copy_104 : decode cX9_copy 104 = .ok (.iload_n 3, 1) := by decide +kernel
theorem dX9_copy_105 : decode cX9_copy 105 = .ok (.iaload, 1) := by decide +kernel
theorem dX9_copy_106 : decode cX9_copy 106 = .ok (.i2l, 1) := by decide +kernel
theorem dX9_copy_107 : decode cX9_copy 107 = .ok (.lcmp, 1) := by decide +kernel
theorem dX9_copy_108 : decode cX9_copy 108 = .ok (.ifCond .le 9, 3) := by decide +kernel
theorem dX9_copy_111 : decode cX9_copy 111 = .ok (.aload_n 0, 1) := by decide +kernel
theorem dX9_copy_112 : decode cX9_copy 112 = .ok (.iconst 2, 1) := by decide +kernel
theorem dX9_copy_113 : decode cX9_copy 113 = .ok (.invokevirtual 105, 3) := by decide +kernel
theorem dX9_copy_116 : decode cX9_copy 116 = .ok (.ireturn, 1) := by decide +kernel
theorem dX9_copy_117 : decode cX9_copy 117 = .ok (.iconst 0, 1) := by decide +kernel
theorem dX9_copy_118 : decode cX9_copy 118 = .ok (.istore 6, 2) := by decide +kernel
theorem dX9_copy_120 : decode cX9_copy 120 = .ok (.iload 6, 2) := by decide +kernel
theorem dX9_copy_122 : decode cX9_copy 122 = .ok (.iload 5, 2) := by decide +kernel
theorem dX9_copy_124 : decode cX9_copy 124 = .ok (.if_icmp .ge 30, 3) := by decide +kernel
theorem dX9_copy_127 : decode cX9_copy 127 = .ok (.aload_n 0, 1) := by decide +kernel
theorem dX9_copy_128 : decode cX9_copy 128 = .ok (.getfield 19, 3) := by decide +kernel
theorem dX9_copy_131 : decode cX9_copy 131 = .ok (.iload 6, 2) := by decide +kernel
theorem dX9_copy_133 : decode cX9_copy 133 = .ok (.aload_n 0, 1) := by decide +kernel
theorem dX9_copy_134 : decode cX9_copy 134 = .ok (.getfield 16, 3) := by decide +kernel
theorem dX9_copy_137 : decode cX9_copy 137 = .ok (.bipush 60, 2) := by decide +kernel
theorem dX9_copy_139 : decode cX9_copy 139 = .ok (.iload_n 1, 1) := by decide +kernel
theorem dX9_copy_140 : decode cX9_copy 140 = .ok (.imul, 1) := by decide +kernel
theorem dX9_copy_141 : decode cX9_copy 141 = .ok (.iload_n 2, 1) := by decide +kernel
theorem dX9_copy_142 : decode cX9_copy 142 = .ok (.iadd, 1) := by decide +kernel
theorem dX9_copy_143 : decode cX9_copy 143 = .ok (.iload 6, 2) := by decide +kernel
theorem dX9_copy_145 : decode cX9_copy 145 = .ok (.iadd, 1) := by decide +kernel
theorem dX9_copy_146 : decode cX9_copy 146 = .ok (.iaload, 1) := by decide +kernel
theorem dX9_copy_147 : decode cX9_copy 147 = .ok (.iastore, 1) := by decide +kernel
theorem dX9_copy_148 : decode cX9_copy 148 = .ok (.iinc 6 1, 3) := by decide +kernel
theorem dX9_copy_151 : decode cX9_copy 151 = .ok (.goto (-31), 3) := by decide +kernel
theorem dX9_copy_154 : decode cX9_copy 154 = .ok (.iconst 0, 1) := by decide +kernel
theorem dX9_copy_155 : decode cX9_copy 155 = .ok (.istore 6, 2) := by decide +kernel
theorem dX9_copy_157 : decode cX9_copy 157 = .ok (.iload 6, 2) := by decide +kernel
theorem dX9_copy_159 : decode cX9_copy 159 = .ok (.iload 5, 2) := by decide +kernel
theorem dX9_copy_161 : decode cX9_copy 161 = .ok (.if_icmp .ge 31, 3) := by decide +kernel
theorem dX9_copy_164 : decode cX9_copy 164 = .ok (.aload_n 0, 1) := by decide +kernel
theorem dX9_copy_165 : decode cX9_copy 165 = .ok (.getfield 16, 3) := by decide +kernel
theorem dX9_copy_168 : decode cX9_copy 168 = .ok (.bipush 60, 2) := by decide +kernel
theorem dX9_copy_170 : decode cX9_copy 170 = .ok (.iload_n 3, 1) := by decide +kernel
theorem dX9_copy_171 : decode cX9_copy 171 = .ok (.imul, 1) := by decide +kernel
theorem dX9_copy_172 : decode cX9_copy 172 = .ok (.iload 4, 2) := by decide +kernel
theorem dX9_copy_174 : decode cX9_copy 174 = .ok (.iadd, 1) := by decide +kernel
theorem dX9_copy_175 : decode cX9_copy 175 = .ok (.iload 6, 2) := by decide +kernel
theorem dX9_copy_177 : decode cX9_copy 177 = .ok (.iadd, 1) := by decide +kernel
theorem dX9_copy_178 : decode cX9_copy 178 = .ok (.aload_n 0, 1) := by decide +kernel
theorem dX9_copy_179 : decode cX9_copy 179 = .ok (.getfield 19, 3) := by decide +kernel
theorem dX9_copy_182 : decode cX9_copy 182 = .ok (.iload 6, 2) := by decide +kernel
theorem dX9_copy_184 : decode cX9_copy 184 = .ok (.iaload, 1) := by decide +kernel
theorem dX9_copy_185 : decode cX9_copy 185 = .ok (.iastore, 1) := by decide +kernel
theorem dX9_copy_186 : decode cX9_copy 186 = .ok (.iinc 6 1, 3) := by decide +kernel
theorem dX9_copy_189 : decode cX9_copy 189 = .ok (.goto (-32), 3) := by decide +kernel
theorem dX9_copy_192 : decode cX9_copy 192 = .ok (.iconst 1, 1) := by decide +kernel
theorem dX9_copy_193 : decode cX9_copy 193 = .ok (.ireturn, 1) := by decide +kernel
theorem dX9_type_0 : decode cX9_type 0 = .ok (.iload_n 1, 1) := by decide +kernel
theorem dX9_type_1 : decode cX9_type 1 = .ok (.i2l, 1) := by decide +kernel
theorem dX9_type_2 : decode cX9_type 2 = .ok (.lconst 0, 1) := by decide +kernel
theorem dX9_type_3 : decode cX9_type 3 = .ok (.ldc2_w 118, 3) := by decide +kernel
theorem dX9_type_6 : decode cX9_type 6 = .ok (.invokestatic 89, 3) := by decide +kernel
theorem dX9_type_9 : decode cX9_type 9 = .ok (.ifCond .ne 6, 3) := by decide +kernel
theorem dX9_type_12 : decode cX9_type 12 = .ok (.bipush (-2), 2) := by decide +kernel
theorem dX9_type_14 : decode cX9_type 14 = .ok (.ireturn, 1) := by decide +kernel
theorem dX9_type_15 : decode cX9_type 15 = .ok (.aload_n 0, 1) := by decide +kernel
theorem dX9_type_16 : decode cX9_type 16 = .ok (.getfield 120, 3) := by decide +kernel
theorem dX9_type_19 : decode cX9_type 19 = .ok (.bipush 60, 2) := by decide +kernel
theorem dX9_type_21 : decode cX9_type 21 = .ok (.if_icmp .ne 6, 3) := by decide +kernel
theorem dX9_type_24 : decode cX9_type 24 = .ok (.bipush (-4), 2) := by decide +kernel
theorem dX9_type_26 : decode cX9_type 26 = .ok (.ireturn, 1) := by decide +kernel
theorem dX9_type_27 : decode cX9_type 27 = .ok (.aload_n 0, 1) := by decide +kernel
theorem dX9_type_28 : decode cX9_type 28 = .ok (.getfield 22, 3) := by decide +kernel
theorem dX9_type_31 : decode cX9_type 31 = .ok (.aload_n 0, 1) := by decide +kernel
theorem dX9_type_32 : decode cX9_type 32 = .ok (.getfield 120, 3) := by decide +kernel
theorem dX9_type_35 : decode cX9_type 35 = .ok (.iload_n 1, 1) := by decide +kernel
theorem dX9_type_36 : decode cX9_type 36 = .ok (.iastore, 1) := by decide +kernel
theorem dX9_type_37 : decode cX9_type 37 = .ok (.aload_n 0, 1) := by decide +kernel
theorem dX9_type_38 : decode cX9_type 38 = .ok (.dup, 1) := by decide +kernel
theorem dX9_type_39 : decode cX9_type 39 = .ok (.getfield 120, 3) := by decide +kernel
theorem dX9_type_42 : decode cX9_type 42 = .ok (.iconst 1, 1) := by decide +kernel
theorem dX9_type_43 : decode cX9_type 43 = .ok (.iadd, 1) := by decide +kernel
theorem dX9_type_44 : decode cX9_type 44 = .ok (.putfield 120, 3) := by decide +kernel
theorem dX9_type_47 : decode cX9_type 47 = .ok (.aload_n 0, 1) := by decide +kernel
theorem dX9_type_48 : decode cX9_type 48 = .ok (.getfield 120, 3) := by decide +kernel
theorem dX9_type_51 : decode cX9_type 51 = .ok (.ireturn, 1) := by decide +kernel
theorem dX9_wipe_0 : decode cX9_wipe 0 = .ok (.aload_n 0, 1) := by decide +kernel
theorem dX9_wipe_1 : decode cX9_wipe 1 = .ok (.getfield 120, 3) := by decide +kernel
theorem dX9_wipe_4 : decode cX9_wipe 4 = .ok (.istore_n 1, 1) := by decide +kernel
theorem dX9_wipe_5 : decode cX9_wipe 5 = .ok (.aload_n 0, 1) := by decide +kernel
theorem dX9_wipe_6 : decode cX9_wipe 6 = .ok (.iconst 0, 1) := by decide +kernel
theorem dX9_wipe_7 : decode cX9_wipe 7 = .ok (.putfield 120, 3) := by decide +kernel
theorem dX9_wipe_10 : decode cX9_wipe 10 = .ok (.iload_n 1, 1) := by decide +kernel
theorem dX9_wipe_11 : decode cX9_wipe 11 = .ok (.ireturn, 1) := by decide +kernel
theorem dX9_here_0 : decode cX9_here 0 = .ok (.aload_n 0, 1) := by decide +kernel
theorem dX9_here_1 : decode cX9_here 1 = .ok (.getfield 123, 3) := by decide +kernel
theorem dX9_here_4 : decode cX9_here 4 = .ok (.aload_n 0, 1) := by decide +kernel
theorem dX9_here_5 : decode cX9_here 5 = .ok (.getfield 120, 3) := by decide +kernel
theorem dX9_here_8 : decode cX9_here 8 = .ok (.if_icmp .ge 15, 3) := by decide +kernel
theorem dX9_here_11 : decode cX9_here 11 = .ok (.aload_n 0, 1) := by decide +kernel
theorem dX9_here_12 : decode cX9_here 12 = .ok (.getfield 22, 3) := by decide +kernel
theorem dX9_here_15 : decode cX9_here 15 = .ok (.aload_n 0, 1) := by decide +kernel
theorem dX9_here_16 : decode cX9_here 16 = .ok (.getfield 123, 3) := by decide +kernel
theorem dX9_here_19 : decode cX9_here 19 = .ok (.iaload, 1) := by decide +kernel
theorem dX9_here_20 : decode cX9_here 20 = .ok (.goto 4, 3) := by decide +kernel
theorem dX9_here_23 : decode cX9_here 23 = .ok (.iconst (-1), 1) := by decide +kernel
theorem dX9_here_24 : decode cX9_here 24 = .ok (.ireturn, 1) := by decide +kernel
theorem dX9_clears_0 : decode cX9_clears 0 = .ok (.aload_n 0, 1) := by decide +kernel
theorem dX9_clears_1 : decode cX9_clears 1 = .ok (.iconst 0, 1) := by decide +kernel
theorem dX9_clears_2 : decode cX9_clears 2 = .ok (.putfield 126, 3) := by decide +kernel
theorem dX9_clears_5 : decode cX9_clears 5 = .ok (.aload_n 0, 1) := by decide +kernel
theorem dX9_clears_6 : decode cX9_clears 6 = .ok (.iconst 0, 1) := by decide +kernel
theorem dX9_clears_7 : decode cX9_clears 7 = .ok (.putfield 129, 3) := by decide +kernel
theorem dX9_clears_10 : decode cX9_clears 10 = .ok (.iconst 0, 1) := by decide +kernel
theorem dX9_clears_11 : decode cX9_clears 11 = .ok (.istore_n 1, 1) := by decide +kernel
theorem dX9_clears_12 : decode cX9_clears 12 = .ok (.iload_n 1, 1) := by decide +kernel
theorem dX9_clears_13 : decode cX9_clears 13 = .ok (.iconst 3, 1) := by decide +kernel
theorem dX9_clears_14 : decode cX9_clears 14 = .ok (.if_icmp .ge 16, 3) := by decide +kernel
theorem dX9_clears_17 : decode cX9_clears 17 = .ok (.aload_n 0, 1) := by decide +kernel
theorem dX9_clears_18 : decode cX9_clears 18 = .ok (.getfield 31, 3) := by decide +kernel
theorem dX9_clears_21 : decode cX9_clears 21 = .ok (.iload_n 1, 1) := by decide +kernel
theorem dX9_clears_22 : decode cX9_clears 22 = .ok (.iconst 0, 1) := by decide +kernel
theorem dX9_clears_23 : decode cX9_clears 23 = .ok (.iastore, 1) := by decide +kernel
theorem dX9_clears_24 : decode cX9_clears 24 = .ok (.iinc 1 1, 3) := by decide +kernel
theorem dX9_clears_27 : decode cX9_clears 27 = .ok (.goto (-15), 3) := by decide +kernel
theorem dX9_clears_30 : decode cX9_clears 30 = .ok (.return_, 1) := by decide +kernel
theorem dX9_figure_0 : decode cX9_figure 0 = .ok (.aload_n 0, 1) := by decide +kernel
theorem dX9_figure_1 : decode cX9_figure 1 = .ok (.invokevirtual 132, 3) := by decide +kernel
theorem dX9_figure_4 : decode cX9_figure 4 = .ok (.bipush 48, 2) := by decide +kernel
theorem dX9_figure_6 : decode cX9_figure 6 = .ok (.isub, 1) := by decide +kernel
theorem dX9_figure_7 : decode cX9_figure 7 = .ok (.istore_n 2, 1) := by decide +kernel
theorem dX9_figure_8 : decode cX9_figure 8 = .ok (.iload_n 2, 1) := by decide +kernel
theorem dX9_figure_9 : decode cX9_figure 9 = .ok (.i2l, 1) := by decide +kernel
theorem dX9_figure_10 : decode cX9_figure 10 = .ok (.lconst 0, 1) := by decide +kernel
theorem dX9_figure_11 : decode cX9_figure 11 = .ok (.iload_n 1, 1) := by decide +kernel
theorem dX9_figure_12 : decode cX9_figure 12 = .ok (.i2l, 1) := by decide +kernel
theorem dX9_figure_13 : decode cX9_figure 13 = .ok (.invokestatic 89, 3) := by decide +kernel
theorem dX9_figure_16 : decode cX9_figure 16 = .ok (.ifCond .ne 5, 3) := by decide +kernel
theorem dX9_figure_19 : decode cX9_figure 19 = .ok (.iconst (-1), 1) := by decide +kernel
theorem dX9_figure_20 : decode cX9_figure 20 = .ok (.ireturn, 1) := by decide +kernel
theorem dX9_figure_21 : decode cX9_figure 21 = .ok (.aload_n 0, 1) := by decide +kernel
theorem dX9_figure_22 : decode cX9_figure 22 = .ok (.dup, 1) := by decide +kernel
theorem dX9_figure_23 : decode cX9_figure 23 = .ok (.getfield 123, 3) := by decide +kernel
theorem dX9_figure_26 : decode cX9_figure 26 = .ok (.iconst 1, 1) := by decide +kernel
theorem dX9_figure_27 : decode cX9_figure 27 = .ok (.iadd, 1) := by decide +kernel
theorem dX9_figure_28 : decode cX9_figure 28 = .ok (.putfield 123, 3) := by decide +kernel
theorem dX9_figure_31 : decode cX9_figure 31 = .ok (.iload_n 2, 1) := by decide +kernel
theorem dX9_figure_32 : decode cX9_figure 32 = .ok (.ireturn, 1) := by decide +kernel
theorem dX9_readsPerson_0 : decode cX9_readsPerson 0 = .ok (.aload_n 0, 1) := by decide +kernel
theorem dX9_readsPerson_1 : decode cX9_readsPerson 1 = .ok (.getfield 126, 3) := by decide +kernel
theorem dX9_readsPerson_4 : decode cX9_readsPerson 4 = .ok (.iconst 4, 1) := by decide +kernel
theorem dX9_readsPerson_5 : decode cX9_readsPerson 5 = .ok (.if_icmp .ne 5, 3) := by decide +kernel
theorem dX9_readsPerson_8 : decode cX9_readsPerson 8 = .ok (.iconst 0, 1) := by decide +kernel
theorem dX9_readsPerson_9 : decode cX9_readsPerson 9 = .ok (.ireturn, 1) := by decide +kernel
theorem dX9_readsPerson_10 : decode cX9_readsPerson 10 = .ok (.aload_n 0, 1) := by decide +kernel
theorem dX9_readsPerson_11 : decode cX9_readsPerson 11 = .ok (.dup, 1) := by decide +kernel
theorem dX9_readsPerson_12 : decode cX9_readsPerson 12 = .ok (.getfield 123, 3) := by decide +kernel
theorem dX9_readsPerson_15 : decode cX9_readsPerson 15 = .ok (.iconst 1, 1) := by decide +kernel
theorem dX9_readsPerson_16 : decode cX9_readsPerson 16 = .ok (.iadd, 1) := by decide +kernel
theorem dX9_readsPerson_17 : decode cX9_readsPerson 17 = .ok (.putfield 123, 3) := by decide +kernel
theorem dX9_readsPerson_20 : decode cX9_readsPerson 20 = .ok (.iconst 0, 1) := by decide +kernel
theorem dX9_readsPerson_21 : decode cX9_readsPerson 21 = .ok (.istore_n 1, 1) := by decide +kernel
theorem dX9_readsPerson_22 : decode cX9_readsPerson 22 = .ok (.iload_n 1, 1) := by decide +kernel
theorem dX9_readsPerson_23 : decode cX9_readsPerson 23 = .ok (.iconst 4, 1) := by decide +kernel
theorem dX9_readsPerson_24 : decode cX9_readsPerson 24 = .ok (.if_icmp .ge 36, 3) := by decide +kernel
theorem dX9_readsPerson_27 : decode cX9_readsPerson 27 = .ok (.aload_n 0, 1) := by decide +kernel
theorem dX9_readsPerson_28 : decode cX9_readsPerson 28 = .ok (.bipush 9, 2) := by decide +kernel
theorem dX9_readsPerson_30 : decode cX9_readsPerson 30 = .ok (.invokevirtual 136, 3) := by decide +kernel
theorem dX9_readsPerson_33 : decode cX9_readsPerson 33 = .ok (.istore_n 2, 1) := by decide +kernel
theorem dX9_readsPerson_34 : decode cX9_readsPerson 34 = .ok (.iload_n 2, 1) := by decide +kernel
theorem dX9_readsPerson_35 : decode cX9_readsPerson 35 = .ok (.ifCond .ge 5, 3) := by decide +kernel
theorem dX9_readsPerson_38 : decode cX9_readsPerson 38 = .ok (.iconst 0, 1) := by decide +kernel
theorem dX9_readsPerson_39 : decode cX9_readsPerson 39 = .ok (.ireturn, 1) := by decide +kernel
theorem dX9_readsPerson_40 : decode cX9_readsPerson 40 = .ok (.aload_n 0, 1) := by decide +kernel
theorem dX9_readsPerson_41 : decode cX9_readsPerson 41 = .ok (.getfield 25, 3) := by decide +kernel
theorem dX9_readsPerson_44 : decode cX9_readsPerson 44 = .ok (.iconst 4, 1) := by decide +kernel
theorem dX9_readsPerson_45 : decode cX9_readsPerson 45 = .ok (.aload_n 0, 1) := by decide +kernel
theorem dX9_readsPerson_46 : decode cX9_readsPerson 46 = .ok (.getfield 126, 3) := by decide +kernel
theorem dX9_readsPerson_49 : decode cX9_readsPerson 49 = .ok (.imul, 1) := by decide +kernel
theorem dX9_readsPerson_50 : decode cX9_readsPerson 50 = .ok (.iload_n 1, 1) := by decide +kernel
theorem dX9_readsPerson_51 : decode cX9_readsPerson 51 = .ok (.iadd, 1) := by decide +kernel
theorem dX9_readsPerson_52 : decode cX9_readsPerson 52 = .ok (.iload_n 2, 1) := by decide +kernel
theorem dX9_readsPerson_53 : decode cX9_readsPerson 53 = .ok (.iastore, 1) := by decide +kernel
theorem dX9_readsPerson_54 : decode cX9_readsPerson 54 = .ok (.iinc 1 1, 3) := by decide +kernel
theorem dX9_readsPerson_57 : decode cX9_readsPerson 57 = .ok (.goto (-35), 3) := by decide +kernel
theorem dX9_readsPerson_60 : decode cX9_readsPerson 60 = .ok (.aload_n 0, 1) := by decide +kernel
theorem dX9_readsPerson_61 : decode cX9_readsPerson 61 = .ok (.dup, 1) := by decide +kernel
theorem dX9_readsPerson_62 : decode cX9_readsPerson 62 = .ok (.getfield 126, 3) := by decide +kernel
theorem dX9_readsPerson_65 : decode cX9_readsPerson 65 = .ok (.iconst 1, 1) := by decide +kernel
theorem dX9_readsPerson_66 : decode cX9_readsPerson 66 = .ok (.iadd, 1) := by decide +kernel
theorem dX9_readsPerson_67 : decode cX9_readsPerson 67 = .ok (.putfield 126, 3) := by decide +kernel
theorem dX9_readsPerson_70 : decode cX9_readsPerson 70 = .ok (.iconst 1, 1) := by decide +kernel
theorem dX9_readsPerson_71 : decode cX9_readsPerson 71 = .ok (.ireturn, 1) := by decide +kernel
theorem dX9_readsTale_0 : decode cX9_readsTale 0 = .ok (.aload_n 0, 1) := by decide +kernel
theorem dX9_readsTale_1 : decode cX9_readsTale 1 = .ok (.getfield 129, 3) := by decide +kernel
theorem dX9_readsTale_4 : decode cX9_readsTale 4 = .ok (.iconst 4, 1) := by decide +kernel
theorem dX9_readsTale_5 : decode cX9_readsTale 5 = .ok (.if_icmp .ne 5, 3) := by decide +kernel
theorem dX9_readsTale_8 : decode cX9_readsTale 8 = .ok (.iconst 0, 1) := by decide +kernel
theorem dX9_readsTale_9 : decode cX9_readsTale 9 = .ok (.ireturn, 1) := by decide +kernel
theorem dX9_readsTale_10 : decode cX9_readsTale 10 = .ok (.aload_n 0, 1) := by decide +kernel
theorem dX9_readsTale_11 : decode cX9_readsTale 11 = .ok (.dup, 1) := by decide +kernel
theorem dX9_readsTale_12 : decode cX9_readsTale 12 = .ok (.getfield 123, 3) := by decide +kernel
theorem dX9_readsTale_15 : decode cX9_readsTale 15 = .ok (.iconst 1, 1) := by decide +kernel
theorem dX9_readsTale_16 : decode cX9_readsTale 16 = .ok (.iadd, 1) := by decide +kernel
theorem dX9_readsTale_17 : decode cX9_readsTale 17 = .ok (.putfield 123, 3) := by decide +kernel
theorem dX9_readsTale_20 : decode cX9_readsTale 20 = .ok (.aload_n 0, 1) := by decide +kernel
theorem dX9_readsTale_21 : decode cX9_readsTale 21 = .ok (.bipush 9, 2) := by decide +kernel
theorem dX9_readsTale_23 : decode cX9_readsTale 23 = .ok (.invokevirtual 136, 3) := by decide +kernel
theorem dX9_readsTale_26 : decode cX9_readsTale 26 = .ok (.istore_n 1, 1) := by decide +kernel
theorem dX9_readsTale_27 : decode cX9_readsTale 27 = .ok (.iload_n 1, 1) := by decide +kernel
theorem dX9_readsTale_28 : decode cX9_readsTale 28 = .ok (.ifCond .ge 5, 3) := by decide +kernel
theorem dX9_readsTale_31 : decode cX9_readsTale 31 = .ok (.iconst 0, 1) := by decide +kernel
theorem dX9_readsTale_32 : decode cX9_readsTale 32 = .ok (.ireturn, 1) := by decide +kernel
theorem dX9_readsTale_33 : decode cX9_readsTale 33 = .ok (.aload_n 0, 1) := by decide +kernel
theorem dX9_readsTale_34 : decode cX9_readsTale 34 = .ok (.getfield 28, 3) := by decide +kernel
theorem dX9_readsTale_37 : decode cX9_readsTale 37 = .ok (.aload_n 0, 1) := by decide +kernel
theorem dX9_readsTale_38 : decode cX9_readsTale 38 = .ok (.getfield 129, 3) := by decide +kernel
theorem dX9_readsTale_41 : decode cX9_readsTale 41 = .ok (.iload_n 1, 1) := by decide +kernel
theorem dX9_readsTale_42 : decode cX9_readsTale 42 = .ok (.iastore, 1) := by decide +kernel
theorem dX9_readsTale_43 : decode cX9_readsTale 43 = .ok (.aload_n 0, 1) := by decide +kernel
theorem dX9_readsTale_44 : decode cX9_readsTale 44 = .ok (.dup, 1) := by decide +kernel
theorem dX9_readsTale_45 : decode cX9_readsTale 45 = .ok (.getfield 129, 3) := by decide +kernel
theorem dX9_readsTale_48 : decode cX9_readsTale 48 = .ok (.iconst 1, 1) := by decide +kernel
theorem dX9_readsTale_49 : decode cX9_readsTale 49 = .ok (.iadd, 1) := by decide +kernel
theorem dX9_readsTale_50 : decode cX9_readsTale 50 = .ok (.putfield 129, 3) := by decide +kernel
theorem dX9_readsTale_53 : decode cX9_readsTale 53 = .ok (.iconst 1, 1) := by decide +kernel
theorem dX9_readsTale_54 : decode cX9_readsTale 54 = .ok (.ireturn, 1) := by decide +kernel
theorem dX9_readsLaw_0 : decode cX9_readsLaw 0 = .ok (.aload_n 0, 1) := by decide +kernel
theorem dX9_readsLaw_1 : decode cX9_readsLaw 1 = .ok (.dup, 1) := by decide +kernel
theorem dX9_readsLaw_2 : decode cX9_readsLaw 2 = .ok (.getfield 123, 3) := by decide +kernel
theorem dX9_readsLaw_5 : decode cX9_readsLaw 5 = .ok (.iconst 1, 1) := by decide +kernel
theorem dX9_readsLaw_6 : decode cX9_readsLaw 6 = .ok (.iadd, 1) := by decide +kernel
theorem dX9_readsLaw_7 : decode cX9_readsLaw 7 = .ok (.putfield 123, 3) := by decide +kernel
theorem dX9_readsLaw_10 : decode cX9_readsLaw 10 = .ok (.aload_n 0, 1) := by decide +kernel
theorem dX9_readsLaw_11 : decode cX9_readsLaw 11 = .ok (.iload_n 1, 1) := by decide +kernel
theorem dX9_readsLaw_12 : decode cX9_readsLaw 12 = .ok (.iconst 2, 1) := by decide +kernel
theorem dX9_readsLaw_13 : decode cX9_readsLaw 13 = .ok (.if_icmp .ne 7, 3) := by decide +kernel
theorem dX9_readsLaw_16 : decode cX9_readsLaw 16 = .ok (.iconst 3, 1) := by decide +kernel
theorem dX9_readsLaw_17 : decode cX9_readsLaw 17 = .ok (.goto 4, 3) := by decide +kernel
theorem dX9_readsLaw_20 : decode cX9_readsLaw 20 = .ok (.iconst 2, 1) := by decide +kernel
theorem dX9_readsLaw_21 : decode cX9_readsLaw 21 = .ok (.invokevirtual 136, 3) := by decide +kernel
theorem dX9_readsLaw_24 : decode cX9_readsLaw 24 = .ok (.istore_n 2, 1) := by decide +kernel
theorem dX9_readsLaw_25 : decode cX9_readsLaw 25 = .ok (.iload_n 2, 1) := by decide +kernel
theorem dX9_readsLaw_26 : decode cX9_readsLaw 26 = .ok (.ifCond .ge 5, 3) := by decide +kernel
theorem dX9_readsLaw_29 : decode cX9_readsLaw 29 = .ok (.iconst 0, 1) := by decide +kernel
theorem dX9_readsLaw_30 : decode cX9_readsLaw 30 = .ok (.ireturn, 1) := by decide +kernel
theorem dX9_readsLaw_31 : decode cX9_readsLaw 31 = .ok (.aload_n 0, 1) := by decide +kernel
theorem dX9_readsLaw_32 : decode cX9_readsLaw 32 = .ok (.getfield 31, 3) := by decide +kernel
theorem dX9_readsLaw_35 : decode cX9_readsLaw 35 = .ok (.iload_n 1, 1) := by decide +kernel
theorem dX9_readsLaw_36 : decode cX9_readsLaw 36 = .ok (.iload_n 2, 1) := by decide +kernel
theorem dX9_readsLaw_37 : decode cX9_readsLaw 37 = .ok (.iastore, 1) := by decide +kernel
theorem dX9_readsLaw_38 : decode cX9_readsLaw 38 = .ok (.iconst 1, 1) := by decide +kernel
theorem dX9_readsLaw_39 : decode cX9_readsLaw 39 = .ok (.ireturn, 1) := by decide +kernel
theorem dX9_readsPart_0 : decode cX9_readsPart 0 = .ok (.aload_n 0, 1) := by decide +kernel
theorem dX9_readsPart_1 : decode cX9_readsPart 1 = .ok (.invokevirtual 132, 3) := by decide +kernel
theorem dX9_readsPart_4 : decode cX9_readsPart 4 = .ok (.istore_n 1, 1) := by decide +kernel
theorem dX9_readsPart_5 : decode cX9_readsPart 5 = .ok (.iload_n 1, 1) := by decide +kernel
theorem dX9_readsPart_6 : decode cX9_readsPart 6 = .ok (.bipush 112, 2) := by decide +kernel
theorem dX9_readsPart_8 : decode cX9_readsPart 8 = .ok (.if_icmp .ne 8, 3) := by decide +kernel
theorem dX9_readsPart_11 : decode cX9_readsPart 11 = .ok (.aload_n 0, 1) := by decide +kernel
theorem dX9_readsPart_12 : decode cX9_readsPart 12 = .ok (.invokevirtual 139, 3) := by decide +kernel
theorem dX9_readsPart_15 : decode cX9_readsPart 15 = .ok (.ireturn, 1) := by decide +kernel
theorem dX9_readsPart_16 : decode cX9_readsPart 16 = .ok (.iload_n 1, 1) := by decide +kernel
theorem dX9_readsPart_17 : decode cX9_readsPart 17 = .ok (.bipush 116, 2) := by decide +kernel
theorem dX9_readsPart_19 : decode cX9_readsPart 19 = .ok (.if_icmp .ne 8, 3) := by decide +kernel
theorem dX9_readsPart_22 : decode cX9_readsPart 22 = .ok (.aload_n 0, 1) := by decide +kernel
theorem dX9_readsPart_23 : decode cX9_readsPart 23 = .ok (.invokevirtual 143, 3) := by decide +kernel
theorem dX9_readsPart_26 : decode cX9_readsPart 26 = .ok (.ireturn, 1) := by decide +kernel
theorem dX9_readsPart_27 : decode cX9_readsPart 27 = .ok (.iload_n 1, 1) := by decide +kernel
theorem dX9_readsPart_28 : decode cX9_readsPart 28 = .ok (.bipush 108, 2) := by decide +kernel
theorem dX9_readsPart_30 : decode cX9_readsPart 30 = .ok (.if_icmp .eq 15, 3) := by decide +kernel
theorem dX9_readsPart_33 : decode cX9_readsPart 33 = .ok (.iload_n 1, 1) := by decide +kernel
theorem dX9_readsPart_34 : decode cX9_readsPart 34 = .ok (.bipush 109, 2) := by decide +kernel
theorem dX9_readsPart_36 : decode cX9_readsPart 36 = .ok (.if_icmp .eq 9, 3) := by decide +kernel
theorem dX9_readsPart_39 : decode cX9_readsPart 39 = .ok (.iload_n 1, 1) := by decide +kernel
theorem dX9_readsPart_40 : decode cX9_readsPart 40 = .ok (.bipush 111, 2) := by decide +kernel
theorem dX9_readsPart_42 : decode cX9_readsPart 42 = .ok (.if_icmp .ne 35, 3) := by decide +kernel
theorem dX9_readsPart_45 : decode cX9_readsPart 45 = .ok (.aload_n 0, 1) := by decide +kernel
theorem dX9_readsPart_46 : decode cX9_readsPart 46 = .ok (.iload_n 1, 1) := by decide +kernel
theorem dX9_readsPart_47 : decode cX9_readsPart 47 = .ok (.bipush 108, 2) := by decide +kernel
theorem dX9_readsPart_49 : decode cX9_readsPart 49 = .ok (.if_icmp .ne 7, 3) := by decide +kernel
theorem dX9_readsPart_52 : decode cX9_readsPart 52 = .ok (.iconst 0, 1) := by decide +kernel
theorem dX9_readsPart_53 : decode cX9_readsPart 53 = .ok (.goto 14, 3) := by decide +kernel
theorem dX9_readsPart_56 : decode cX9_readsPart 56 = .ok (.iload_n 1, 1) := by decide +kernel
theorem dX9_readsPart_57 : decode cX9_readsPart 57 = .ok (.bipush 109, 2) := by decide +kernel
theorem dX9_readsPart_59 : decode cX9_readsPart 59 = .ok (.if_icmp .ne 7, 3) := by decide +kernel
theorem dX9_readsPart_62 : decode cX9_readsPart 62 = .ok (.iconst 1, 1) := by decide +kernel
theorem dX9_readsPart_63 : decode cX9_readsPart 63 = .ok (.goto 4, 3) := by decide +kernel
theorem dX9_readsPart_66 : decode cX9_readsPart 66 = .ok (.iconst 2, 1) := by decide +kernel
theorem dX9_readsPart_67 : decode cX9_readsPart 67 = .ok (.invokevirtual 146, 3) := by decide +kernel
theorem dX9_readsPart_70 : decode cX9_readsPart 70 = .ok (.ifCond .eq 7, 3) := by decide +kernel
theorem dX9_readsPart_73 : decode cX9_readsPart 73 = .ok (.iconst 1, 1) := by decide +kernel
theorem dX9_readsPart_74 : decode cX9_readsPart 74 = .ok (.goto 4, 3) := by decide +kernel
theorem dX9_readsPart_77 : decode cX9_readsPart 77 = .ok (.iconst 0, 1) := by decide +kernel
theorem dX9_readsPart_78 : decode cX9_readsPart 78 = .ok (.ireturn, 1) := by decide +kernel
theorem dX9_reads_0 : decode cX9_reads 0 = .ok (.aload_n 0, 1) := by decide +kernel
theorem dX9_reads_1 : decode cX9_reads 1 = .ok (.iconst 0, 1) := by decide +kernel
theorem dX9_reads_2 : decode cX9_reads 2 = .ok (.putfield 123, 3) := by decide +kernel
theorem dX9_reads_5 : decode cX9_reads 5 = .ok (.aload_n 0, 1) := by decide +kernel
theorem dX9_reads_6 : decode cX9_reads 6 = .ok (.invokevirtual 149, 3) := by decide +kernel
theorem dX9_reads_9 : decode cX9_reads 9 = .ok (.aload_n 0, 1) := by decide +kernel
theorem dX9_reads_10 : decode cX9_reads 10 = .ok (.getfield 120, 3) := by decide +kernel
theorem dX9_reads_13 : decode cX9_reads 13 = .ok (.ifCond .le 7, 3) := by decide +kernel
theorem dX9_reads_16 : decode cX9_reads 16 = .ok (.iconst 1, 1) := by decide +kernel
theorem dX9_reads_17 : decode cX9_reads 17 = .ok (.goto 4, 3) := by decide +kernel
theorem dX9_reads_20 : decode cX9_reads 20 = .ok (.iconst 0, 1) := by decide +kernel
theorem dX9_reads_21 : decode cX9_reads 21 = .ok (.istore_n 1, 1) := by decide +kernel
theorem dX9_reads_22 : decode cX9_reads 22 = .ok (.iload_n 1, 1) := by decide +kernel
theorem dX9_reads_23 : decode cX9_reads 23 = .ok (.ifCond .eq 79, 3) := by decide +kernel
theorem dX9_reads_26 : decode cX9_reads 26 = .ok (.aload_n 0, 1) := by decide +kernel
theorem dX9_reads_27 : decode cX9_reads 27 = .ok (.invokevirtual 152, 3) := by decide +kernel
theorem dX9_reads_30 : decode cX9_reads 30 = .ok (.ifCond .ne 12, 3) := by decide +kernel
theorem dX9_reads_33 : decode cX9_reads 33 = .ok (.aload_n 0, 1) := by decide +kernel
theorem dX9_reads_34 : decode cX9_reads 34 = .ok (.invokevirtual 149, 3) := by decide +kernel
theorem dX9_reads_37 : decode cX9_reads 37 = .ok (.aload_n 0, 1) := by decide +kernel
theorem dX9_reads_38 : decode cX9_reads 38 = .ok (.getfield 123, 3) := by decide +kernel
theorem dX9_reads_41 : decode cX9_reads 41 = .ok (.ireturn, 1) := by decide +kernel
theorem dX9_reads_42 : decode cX9_reads 42 = .ok (.aload_n 0, 1) := by decide +kernel
theorem dX9_reads_43 : decode cX9_reads 43 = .ok (.getfield 123, 3) := by decide +kernel
theorem dX9_reads_46 : decode cX9_reads 46 = .ok (.aload_n 0, 1) := by decide +kernel
theorem dX9_reads_47 : decode cX9_reads 47 = .ok (.getfield 120, 3) := by decide +kernel
theorem dX9_reads_50 : decode cX9_reads 50 = .ok (.if_icmp .ge 7, 3) := by decide +kernel
theorem dX9_reads_53 : decode cX9_reads 53 = .ok (.iconst 1, 1) := by decide +kernel
theorem dX9_reads_54 : decode cX9_reads 54 = .ok (.goto 4, 3) := by decide +kernel
theorem dX9_reads_57 : decode cX9_reads 57 = .ok (.iconst 0, 1) := by decide +kernel
theorem dX9_reads_58 : decode cX9_reads 58 = .ok (.istore_n 1, 1) := by decide +kernel
theorem dX9_reads_59 : decode cX9_reads 59 = .ok (.iload_n 1, 1) := by decide +kernel
theorem dX9_reads_60 : decode cX9_reads 60 = .ok (.ifCond .eq 21, 3) := by decide +kernel
theorem dX9_reads_63 : decode cX9_reads 63 = .ok (.aload_n 0, 1) := by decide +kernel
theorem dX9_reads_64 : decode cX9_reads 64 = .ok (.invokevirtual 132, 3) := by decide +kernel
theorem dX9_reads_67 : decode cX9_reads 67 = .ok (.bipush 59, 2) := by decide +kernel
theorem dX9_reads_69 : decode cX9_reads 69 = .ok (.if_icmp .eq 12, 3) := by decide +kernel
theorem dX9_reads_72 : decode cX9_reads 72 = .ok (.aload_n 0, 1) := by decide +kernel
theorem dX9_reads_73 : decode cX9_reads 73 = .ok (.invokevirtual 149, 3) := by decide +kernel
theorem dX9_reads_76 : decode cX9_reads 76 = .ok (.aload_n 0, 1) := by decide +kernel
theorem dX9_reads_77 : decode cX9_reads 77 = .ok (.getfield 123, 3) := by decide +kernel
theorem dX9_reads_80 : decode cX9_reads 80 = .ok (.ireturn, 1) := by decide +kernel
theorem dX9_reads_81 : decode cX9_reads 81 = .ok (.aload_n 0, 1) := by decide +kernel
theorem dX9_reads_82 : decode cX9_reads 82 = .ok (.dup, 1) := by decide +kernel
theorem dX9_reads_83 : decode cX9_reads 83 = .ok (.getfield 123, 3) := by decide +kernel
theorem dX9_reads_86 : decode cX9_reads 86 = .ok (.iload_n 1, 1) := by decide +kernel
theorem dX9_reads_87 : decode cX9_reads 87 = .ok (.ifCond .eq 7, 3) := by decide +kernel
theorem dX9_reads_90 : decode cX9_reads 90 = .ok (.iconst 1, 1) := by decide +kernel
theorem dX9_reads_91 : decode cX9_reads 91 = .ok (.goto 4, 3) := by decide +kernel
theorem dX9_reads_94 : decode cX9_reads 94 = .ok (.iconst 0, 1) := by decide +kernel
theorem dX9_reads_95 : decode cX9_reads 95 = .ok (.iadd, 1) := by decide +kernel
theorem dX9_reads_96 : decode cX9_reads 96 = .ok (.putfield 123, 3) := by decide +kernel
theorem dX9_reads_99 : decode cX9_reads 99 = .ok (.goto (-77), 3) := by decide +kernel
theorem dX9_reads_102 : decode cX9_reads 102 = .ok (.iconst (-1), 1) := by decide +kernel
theorem dX9_reads_103 : decode cX9_reads 103 = .ok (.ireturn, 1) := by decide +kernel
theorem dX9_fault_0 : decode cX9_fault 0 = .ok (.aload_n 0, 1) := by decide +kernel
theorem dX9_fault_1 : decode cX9_fault 1 = .ok (.invokevirtual 155, 3) := by decide +kernel
theorem dX9_fault_4 : decode cX9_fault 4 = .ok (.ireturn, 1) := by decide +kernel
theorem dX9_isPerson_0 : decode cX9_isPerson 0 = .ok (.aload_n 0, 1) := by decide +kernel
theorem dX9_isPerson_1 : decode cX9_isPerson 1 = .ok (.invokevirtual 155, 3) := by decide +kernel
theorem dX9_isPerson_4 : decode cX9_isPerson 4 = .ok (.pop, 1) := by decide +kernel
theorem dX9_isPerson_5 : decode cX9_isPerson 5 = .ok (.iload_n 1, 1) := by decide +kernel
theorem dX9_isPerson_6 : decode cX9_isPerson 6 = .ok (.i2l, 1) := by decide +kernel
theorem dX9_isPerson_7 : decode cX9_isPerson 7 = .ok (.lconst 0, 1) := by decide +kernel
theorem dX9_isPerson_8 : decode cX9_isPerson 8 = .ok (.aload_n 0, 1) := by decide +kernel
theorem dX9_isPerson_9 : decode cX9_isPerson 9 = .ok (.getfield 126, 3) := by decide +kernel
theorem dX9_isPerson_12 : decode cX9_isPerson 12 = .ok (.iconst 1, 1) := by decide +kernel
theorem dX9_isPerson_13 : decode cX9_isPerson 13 = .ok (.isub, 1) := by decide +kernel
theorem dX9_isPerson_14 : decode cX9_isPerson 14 = .ok (.i2l, 1) := by decide +kernel
theorem dX9_isPerson_15 : decode cX9_isPerson 15 = .ok (.invokestatic 89, 3) := by decide +kernel
theorem dX9_isPerson_18 : decode cX9_isPerson 18 = .ok (.ireturn, 1) := by decide +kernel
theorem dX9_isAnyone_0 : decode cX9_isAnyone 0 = .ok (.iload_n 0, 1) := by decide +kernel
theorem dX9_isAnyone_1 : decode cX9_isAnyone 1 = .ok (.i2l, 1) := by decide +kernel
theorem dX9_isAnyone_2 : decode cX9_isAnyone 2 = .ok (.lconst 0, 1) := by decide +kernel
theorem dX9_isAnyone_3 : decode cX9_isAnyone 3 = .ok (.ldc2_w 97, 3) := by decide +kernel
theorem dX9_isAnyone_6 : decode cX9_isAnyone 6 = .ok (.invokestatic 89, 3) := by decide +kernel
theorem dX9_isAnyone_9 : decode cX9_isAnyone 9 = .ok (.ireturn, 1) := by decide +kernel
theorem dX9_person_0 : decode cX9_person 0 = .ok (.aload_n 0, 1) := by decide +kernel
theorem dX9_person_1 : decode cX9_person 1 = .ok (.iload_n 1, 1) := by decide +kernel
theorem dX9_person_2 : decode cX9_person 2 = .ok (.invokevirtual 158, 3) := by decide +kernel
theorem dX9_person_5 : decode cX9_person 5 = .ok (.ifCond .eq 28, 3) := by decide +kernel
theorem dX9_person_8 : decode cX9_person 8 = .ok (.iload_n 2, 1) := by decide +kernel
theorem dX9_person_9 : decode cX9_person 9 = .ok (.i2l, 1) := by decide +kernel
theorem dX9_person_10 : decode cX9_person 10 = .ok (.lconst 0, 1) := by decide +kernel
theorem dX9_person_11 : decode cX9_person 11 = .ok (.ldc2_w 97, 3) := by decide +kernel
theorem dX9_person_14 : decode cX9_person 14 = .ok (.invokestatic 89, 3) := by decide +kernel
theorem dX9_person_17 : decode cX9_person 17 = .ok (.ifCond .eq 16, 3) := by decide +kernel
theorem dX9_person_20 : decode cX9_person 20 = .ok (.aload_n 0, 1) := by decide +kernel
theorem dX9_person_21 : decode cX9_person 21 = .ok (.getfield 25, 3) := by decide +kernel
theorem dX9_person_24 : decode cX9_person 24 = .ok (.iconst 4, 1) := by decide +kernel
theorem dX9_person_25 : decode cX9_person 25 = .ok (.iload_n 1, 1) := by decide +kernel
theorem dX9_person_26 : decode cX9_person 26 = .ok (.imul, 1) := by decide +kernel
theorem dX9_person_27 : decode cX9_person 27 = .ok (.iload_n 2, 1) := by decide +kernel
theorem dX9_person_28 : decode cX9_person 28 = .ok (.iadd, 1) := by decide +kernel
theorem dX9_person_29 : decode cX9_person 29 = .ok (.iaload, 1) := by decide +kernel
theorem dX9_person_30 : decode cX9_person 30 = .ok (.goto 5, 3) := by decide +kernel
theorem dX9_person_33 : decode cX9_person 33 = .ok (.bipush (-2), 2) := by decide +kernel
theorem dX9_person_35 : decode cX9_person 35 = .ok (.ireturn, 1) := by decide +kernel
theorem dX9_tale_0 : decode cX9_tale 0 = .ok (.aload_n 0, 1) := by decide +kernel
theorem dX9_tale_1 : decode cX9_tale 1 = .ok (.invokevirtual 155, 3) := by decide +kernel
theorem dX9_tale_4 : decode cX9_tale 4 = .ok (.pop, 1) := by decide +kernel
theorem dX9_tale_5 : decode cX9_tale 5 = .ok (.iload_n 1, 1) := by decide +kernel
theorem dX9_tale_6 : decode cX9_tale 6 = .ok (.i2l, 1) := by decide +kernel
theorem dX9_tale_7 : decode cX9_tale 7 = .ok (.lconst 0, 1) := by decide +kernel
theorem dX9_tale_8 : decode cX9_tale 8 = .ok (.aload_n 0, 1) := by decide +kernel
theorem dX9_tale_9 : decode cX9_tale 9 = .ok (.getfield 129, 3) := by decide +kernel
theorem dX9_tale_12 : decode cX9_tale 12 = .ok (.iconst 1, 1) := by decide +kernel
theorem dX9_tale_13 : decode cX9_tale 13 = .ok (.isub, 1) := by decide +kernel
theorem dX9_tale_14 : decode cX9_tale 14 = .ok (.i2l, 1) := by decide +kernel
theorem dX9_tale_15 : decode cX9_tale 15 = .ok (.invokestatic 89, 3) := by decide +kernel
theorem dX9_tale_18 : decode cX9_tale 18 = .ok (.ifCond .eq 12, 3) := by decide +kernel
theorem dX9_tale_21 : decode cX9_tale 21 = .ok (.aload_n 0, 1) := by decide +kernel
theorem dX9_tale_22 : decode cX9_tale 22 = .ok (.getfield 28, 3) := by decide +kernel
theorem dX9_tale_25 : decode cX9_tale 25 = .ok (.iload_n 1, 1) := by decide +kernel
theorem dX9_tale_26 : decode cX9_tale 26 = .ok (.iaload, 1) := by decide +kernel
theorem dX9_tale_27 : decode cX9_tale 27 = .ok (.goto 5, 3) := by decide +kernel
theorem dX9_tale_30 : decode cX9_tale 30 = .ok (.bipush (-2), 2) := by decide +kernel
theorem dX9_tale_32 : decode cX9_tale 32 = .ok (.ireturn, 1) := by decide +kernel
theorem dX9_lawNow_0 : decode cX9_lawNow 0 = .ok (.aload_n 0, 1) := by decide +kernel
theorem dX9_lawNow_1 : decode cX9_lawNow 1 = .ok (.invokevirtual 155, 3) := by decide +kernel
theorem dX9_lawNow_4 : decode cX9_lawNow 4 = .ok (.pop, 1) := by decide +kernel
theorem dX9_lawNow_5 : decode cX9_lawNow 5 = .ok (.iload_n 1, 1) := by decide +kernel
theorem dX9_lawNow_6 : decode cX9_lawNow 6 = .ok (.iconst 2, 1) := by decide +kernel
theorem dX9_lawNow_7 : decode cX9_lawNow 7 = .ok (.if_icmp .ne 20, 3) := by decide +kernel
theorem dX9_lawNow_10 : decode cX9_lawNow 10 = .ok (.aload_n 0, 1) := by decide +kernel
theorem dX9_lawNow_11 : decode cX9_lawNow 11 = .ok (.getfield 31, 3) := by decide +kernel
theorem dX9_lawNow_14 : decode cX9_lawNow 14 = .ok (.iconst 2, 1) := by decide +kernel
theorem dX9_lawNow_15 : decode cX9_lawNow 15 = .ok (.iaload, 1) := by decide +kernel
theorem dX9_lawNow_16 : decode cX9_lawNow 16 = .ok (.aload_n 0, 1) := by decide +kernel
theorem dX9_lawNow_17 : decode cX9_lawNow 17 = .ok (.getfield 126, 3) := by decide +kernel
theorem dX9_lawNow_20 : decode cX9_lawNow 20 = .ok (.if_icmp .lt 7, 3) := by decide +kernel
theorem dX9_lawNow_23 : decode cX9_lawNow 23 = .ok (.iconst 0, 1) := by decide +kernel
theorem dX9_lawNow_24 : decode cX9_lawNow 24 = .ok (.goto 9, 3) := by decide +kernel
theorem dX9_lawNow_27 : decode cX9_lawNow 27 = .ok (.aload_n 0, 1) := by decide +kernel
theorem dX9_lawNow_28 : decode cX9_lawNow 28 = .ok (.getfield 31, 3) := by decide +kernel
theorem dX9_lawNow_31 : decode cX9_lawNow 31 = .ok (.iload_n 1, 1) := by decide +kernel
theorem dX9_lawNow_32 : decode cX9_lawNow 32 = .ok (.iaload, 1) := by decide +kernel
theorem dX9_lawNow_33 : decode cX9_lawNow 33 = .ok (.ireturn, 1) := by decide +kernel
theorem dX9_law_0 : decode cX9_law 0 = .ok (.iload_n 1, 1) := by decide +kernel
theorem dX9_law_1 : decode cX9_law 1 = .ok (.i2l, 1) := by decide +kernel
theorem dX9_law_2 : decode cX9_law 2 = .ok (.lconst 0, 1) := by decide +kernel
theorem dX9_law_3 : decode cX9_law 3 = .ok (.ldc2_w 103, 3) := by decide +kernel
theorem dX9_law_6 : decode cX9_law 6 = .ok (.invokestatic 89, 3) := by decide +kernel
theorem dX9_law_9 : decode cX9_law 9 = .ok (.ifCond .eq 11, 3) := by decide +kernel
theorem dX9_law_12 : decode cX9_law 12 = .ok (.aload_n 0, 1) := by decide +kernel
theorem dX9_law_13 : decode cX9_law 13 = .ok (.iload_n 1, 1) := by decide +kernel
theorem dX9_law_14 : decode cX9_law 14 = .ok (.invokevirtual 161, 3) := by decide +kernel
theorem dX9_law_17 : decode cX9_law 17 = .ok (.goto 5, 3) := by decide +kernel
theorem dX9_law_20 : decode cX9_law 20 = .ok (.bipush (-2), 2) := by decide +kernel
theorem dX9_law_22 : decode cX9_law 22 = .ok (.ireturn, 1) := by decide +kernel
theorem dX9_holds_0 : decode cX9_holds 0 = .ok (.iload_n 1, 1) := by decide +kernel
theorem dX9_holds_1 : decode cX9_holds 1 = .ok (.invokestatic 164, 3) := by decide +kernel
theorem dX9_holds_4 : decode cX9_holds 4 = .ok (.ifCond .eq 15, 3) := by decide +kernel
theorem dX9_holds_7 : decode cX9_holds 7 = .ok (.iload_n 2, 1) := by decide +kernel
theorem dX9_holds_8 : decode cX9_holds 8 = .ok (.i2l, 1) := by decide +kernel
theorem dX9_holds_9 : decode cX9_holds 9 = .ok (.lconst 0, 1) := by decide +kernel
theorem dX9_holds_10 : decode cX9_holds 10 = .ok (.ldc2_w 167, 3) := by decide +kernel
theorem dX9_holds_13 : decode cX9_holds 13 = .ok (.invokestatic 89, 3) := by decide +kernel
theorem dX9_holds_16 : decode cX9_holds 16 = .ok (.ifCond .ne 6, 3) := by decide +kernel
theorem dX9_holds_19 : decode cX9_holds 19 = .ok (.bipush (-2), 2) := by decide +kernel
theorem dX9_holds_21 : decode cX9_holds 21 = .ok (.ireturn, 1) := by decide +kernel
theorem dX9_holds_22 : decode cX9_holds 22 = .ok (.aload_n 0, 1) := by decide +kernel
theorem dX9_holds_23 : decode cX9_holds 23 = .ok (.getfield 34, 3) := by decide +kernel
theorem dX9_holds_26 : decode cX9_holds 26 = .ok (.iload_n 1, 1) := by decide +kernel
theorem dX9_holds_27 : decode cX9_holds 27 = .ok (.iaload, 1) := by decide +kernel
theorem dX9_holds_28 : decode cX9_holds 28 = .ok (.istore_n 3, 1) := by decide +kernel
theorem dX9_holds_29 : decode cX9_holds 29 = .ok (.aload_n 0, 1) := by decide +kernel
theorem dX9_holds_30 : decode cX9_holds 30 = .ok (.getfield 34, 3) := by decide +kernel
theorem dX9_holds_33 : decode cX9_holds 33 = .ok (.iload_n 1, 1) := by decide +kernel
theorem dX9_holds_34 : decode cX9_holds 34 = .ok (.iload_n 2, 1) := by decide +kernel
theorem dX9_holds_35 : decode cX9_holds 35 = .ok (.iastore, 1) := by decide +kernel
theorem dX9_holds_36 : decode cX9_holds 36 = .ok (.iload_n 3, 1) := by decide +kernel
theorem dX9_holds_37 : decode cX9_holds 37 = .ok (.ireturn, 1) := by decide +kernel
theorem dX9_leaves_0 : decode cX9_leaves 0 = .ok (.iload_n 1, 1) := by decide +kernel
theorem dX9_leaves_1 : decode cX9_leaves 1 = .ok (.invokestatic 164, 3) := by decide +kernel
theorem dX9_leaves_4 : decode cX9_leaves 4 = .ok (.ifCond .eq 15, 3) := by decide +kernel
theorem dX9_leaves_7 : decode cX9_leaves 7 = .ok (.iload_n 2, 1) := by decide +kernel
theorem dX9_leaves_8 : decode cX9_leaves 8 = .ok (.i2l, 1) := by decide +kernel
theorem dX9_leaves_9 : decode cX9_leaves 9 = .ok (.lconst 0, 1) := by decide +kernel
theorem dX9_leaves_10 : decode cX9_leaves 10 = .ok (.ldc2_w 169, 3) := by decide +kernel
theorem dX9_leaves_13 : decode cX9_leaves 13 = .ok (.invokestatic 89, 3) := by decide +kernel
theorem dX9_leaves_16 : decode cX9_leaves 16 = .ok (.ifCond .ne 6, 3) := by decide +kernel
theorem dX9_leaves_19 : decode cX9_leaves 19 = .ok (.bipush (-2), 2) := by decide +kernel
theorem dX9_leaves_21 : decode cX9_leaves 21 = .ok (.ireturn, 1) := by decide +kernel
theorem dX9_leaves_22 : decode cX9_leaves 22 = .ok (.aload_n 0, 1) := by decide +kernel
theorem dX9_leaves_23 : decode cX9_leaves 23 = .ok (.getfield 37, 3) := by decide +kernel
theorem dX9_leaves_26 : decode cX9_leaves 26 = .ok (.iload_n 1, 1) := by decide +kernel
theorem dX9_leaves_27 : decode cX9_leaves 27 = .ok (.iaload, 1) := by decide +kernel
theorem dX9_leaves_28 : decode cX9_leaves 28 = .ok (.istore_n 3, 1) := by decide +kernel
theorem dX9_leaves_29 : decode cX9_leaves 29 = .ok (.aload_n 0, 1) := by decide +kernel
theorem dX9_leaves_30 : decode cX9_leaves 30 = .ok (.getfield 37, 3) := by decide +kernel
theorem dX9_leaves_33 : decode cX9_leaves 33 = .ok (.iload_n 1, 1) := by decide +kernel
theorem dX9_leaves_34 : decode cX9_leaves 34 = .ok (.iload_n 2, 1) := by decide +kernel
theorem dX9_leaves_35 : decode cX9_leaves 35 = .ok (.iastore, 1) := by decide +kernel
theorem dX9_leaves_36 : decode cX9_leaves 36 = .ok (.iload_n 3, 1) := by decide +kernel
theorem dX9_leaves_37 : decode cX9_leaves 37 = .ok (.ireturn, 1) := by decide +kernel
theorem dX9_tries_0 : decode cX9_tries 0 = .ok (.aload_n 0, 1) := by decide +kernel
theorem dX9_tries_1 : decode cX9_tries 1 = .ok (.invokevirtual 155, 3) := by decide +kernel
theorem dX9_tries_4 : decode cX9_tries 4 = .ok (.pop, 1) := by decide +kernel
theorem dX9_tries_5 : decode cX9_tries 5 = .ok (.aload_n 0, 1) := by decide +kernel
theorem dX9_tries_6 : decode cX9_tries 6 = .ok (.aload_n 0, 1) := by decide +kernel
theorem dX9_tries_7 : decode cX9_tries 7 = .ok (.getfield 126, 3) := by decide +kernel
theorem dX9_tries_10 : decode cX9_tries 10 = .ok (.putfield 171, 3) := by decide +kernel
theorem dX9_tries_13 : decode cX9_tries 13 = .ok (.iconst 0, 1) := by decide +kernel
theorem dX9_tries_14 : decode cX9_tries 14 = .ok (.istore_n 1, 1) := by decide +kernel
theorem dX9_tries_15 : decode cX9_tries 15 = .ok (.iload_n 1, 1) := by decide +kernel
theorem dX9_tries_16 : decode cX9_tries 16 = .ok (.iconst 4, 1) := by decide +kernel
theorem dX9_tries_17 : decode cX9_tries 17 = .ok (.if_icmp .ge 83, 3) := by decide +kernel
theorem dX9_tries_20 : decode cX9_tries 20 = .ok (.aload_n 0, 1) := by decide +kernel
theorem dX9_tries_21 : decode cX9_tries 21 = .ok (.getfield 40, 3) := by decide +kernel
theorem dX9_tries_24 : decode cX9_tries 24 = .ok (.iload_n 1, 1) := by decide +kernel
theorem dX9_tries_25 : decode cX9_tries 25 = .ok (.aload_n 0, 1) := by decide +kernel
theorem dX9_tries_26 : decode cX9_tries 26 = .ok (.getfield 34, 3) := by decide +kernel
theorem dX9_tries_29 : decode cX9_tries 29 = .ok (.iload_n 1, 1) := by decide +kernel
theorem dX9_tries_30 : decode cX9_tries 30 = .ok (.iaload, 1) := by decide +kernel
theorem dX9_tries_31 : decode cX9_tries 31 = .ok (.iastore, 1) := by decide +kernel
theorem dX9_tries_32 : decode cX9_tries 32 = .ok (.aload_n 0, 1) := by decide +kernel
theorem dX9_tries_33 : decode cX9_tries 33 = .ok (.getfield 43, 3) := by decide +kernel
theorem dX9_tries_36 : decode cX9_tries 36 = .ok (.iload_n 1, 1) := by decide +kernel
theorem dX9_tries_37 : decode cX9_tries 37 = .ok (.aload_n 0, 1) := by decide +kernel
theorem dX9_tries_38 : decode cX9_tries 38 = .ok (.getfield 37, 3) := by decide +kernel
theorem dX9_tries_41 : decode cX9_tries 41 = .ok (.iload_n 1, 1) := by decide +kernel
theorem dX9_tries_42 : decode cX9_tries 42 = .ok (.iaload, 1) := by decide +kernel
theorem dX9_tries_43 : decode cX9_tries 43 = .ok (.iastore, 1) := by decide +kernel
theorem dX9_tries_44 : decode cX9_tries 44 = .ok (.aload_n 0, 1) := by decide +kernel
theorem dX9_tries_45 : decode cX9_tries 45 = .ok (.getfield 46, 3) := by decide +kernel
theorem dX9_tries_48 : decode cX9_tries 48 = .ok (.iload_n 1, 1) := by decide +kernel
theorem dX9_tries_49 : decode cX9_tries 49 = .ok (.iload_n 1, 1) := by decide +kernel
theorem dX9_tries_50 : decode cX9_tries 50 = .ok (.aload_n 0, 1) := by decide +kernel
theorem dX9_tries_51 : decode cX9_tries 51 = .ok (.getfield 126, 3) := by decide +kernel
theorem dX9_tries_54 : decode cX9_tries 54 = .ok (.if_icmp .ge 14, 3) := by decide +kernel
theorem dX9_tries_57 : decode cX9_tries 57 = .ok (.aload_n 0, 1) := by decide +kernel
theorem dX9_tries_58 : decode cX9_tries 58 = .ok (.getfield 25, 3) := by decide +kernel
theorem dX9_tries_61 : decode cX9_tries 61 = .ok (.iconst 4, 1) := by decide +kernel
theorem dX9_tries_62 : decode cX9_tries 62 = .ok (.iload_n 1, 1) := by decide +kernel
theorem dX9_tries_63 : decode cX9_tries 63 = .ok (.imul, 1) := by decide +kernel
theorem dX9_tries_64 : decode cX9_tries 64 = .ok (.iaload, 1) := by decide +kernel
theorem dX9_tries_65 : decode cX9_tries 65 = .ok (.goto 4, 3) := by decide +kernel
theorem dX9_tries_68 : decode cX9_tries 68 = .ok (.iconst 0, 1) := by decide +kernel
theorem dX9_tries_69 : decode cX9_tries 69 = .ok (.iastore, 1) := by decide +kernel
theorem dX9_tries_70 : decode cX9_tries 70 = .ok (.aload_n 0, 1) := by decide +kernel
theorem dX9_tries_71 : decode cX9_tries 71 = .ok (.getfield 49, 3) := by decide +kernel
theorem dX9_tries_74 : decode cX9_tries 74 = .ok (.iload_n 1, 1) := by decide +kernel
theorem dX9_tries_75 : decode cX9_tries 75 = .ok (.iload_n 1, 1) := by decide +kernel
theorem dX9_tries_76 : decode cX9_tries 76 = .ok (.aload_n 0, 1) := by decide +kernel
theorem dX9_tries_77 : decode cX9_tries 77 = .ok (.getfield 129, 3) := by decide +kernel
theorem dX9_tries_80 : decode cX9_tries 80 = .ok (.if_icmp .ge 12, 3) := by decide +kernel
theorem dX9_tries_83 : decode cX9_tries 83 = .ok (.aload_n 0, 1) := by decide +kernel
theorem dX9_tries_84 : decode cX9_tries 84 = .ok (.getfield 28, 3) := by decide +kernel
theorem dX9_tries_87 : decode cX9_tries 87 = .ok (.iload_n 1, 1) := by decide +kernel
theorem dX9_tries_88 : decode cX9_tries 88 = .ok (.iaload, 1) := by decide +kernel
theorem dX9_tries_89 : decode cX9_tries 89 = .ok (.goto 4, 3) := by decide +kernel
theorem dX9_tries_92 : decode cX9_tries 92 = .ok (.iconst 0, 1) := by decide +kernel
theorem dX9_tries_93 : decode cX9_tries 93 = .ok (.iastore, 1) := by decide +kernel
theorem dX9_tries_94 : decode cX9_tries 94 = .ok (.iinc 1 1, 3) := by decide +kernel
theorem dX9_tries_97 : decode cX9_tries 97 = .ok (.goto (-82), 3) := by decide +kernel
theorem dX9_tries_100 : decode cX9_tries 100 = .ok (.aload_n 0, 1) := by decide +kernel
theorem dX9_tries_101 : decode cX9_tries 101 = .ok (.aload_n 0, 1) := by decide +kernel
theorem dX9_tries_102 : decode cX9_tries 102 = .ok (.iconst 0, 1) := by decide +kernel
theorem dX9_tries_103 : decode cX9_tries 103 = .ok (.invokevirtual 161, 3) := by decide +kernel
theorem dX9_tries_106 : decode cX9_tries 106 = .ok (.putfield 174, 3) := by decide +kernel
theorem dX9_tries_109 : decode cX9_tries 109 = .ok (.aload_n 0, 1) := by decide +kernel
theorem dX9_tries_110 : decode cX9_tries 110 = .ok (.aload_n 0, 1) := by decide +kernel
theorem dX9_tries_111 : decode cX9_tries 111 = .ok (.iconst 1, 1) := by decide +kernel
theorem dX9_tries_112 : decode cX9_tries 112 = .ok (.invokevirtual 161, 3) := by decide +kernel
theorem dX9_tries_115 : decode cX9_tries 115 = .ok (.putfield 177, 3) := by decide +kernel
theorem dX9_tries_118 : decode cX9_tries 118 = .ok (.aload_n 0, 1) := by decide +kernel
theorem dX9_tries_119 : decode cX9_tries 119 = .ok (.aload_n 0, 1) := by decide +kernel
theorem dX9_tries_120 : decode cX9_tries 120 = .ok (.iconst 2, 1) := by decide +kernel
theorem dX9_tries_121 : decode cX9_tries 121 = .ok (.invokevirtual 161, 3) := by decide +kernel
theorem dX9_tries_124 : decode cX9_tries 124 = .ok (.putfield 180, 3) := by decide +kernel
theorem dX9_tries_127 : decode cX9_tries 127 = .ok (.aload_n 0, 1) := by decide +kernel
theorem dX9_tries_128 : decode cX9_tries 128 = .ok (.iconst 0, 1) := by decide +kernel
theorem dX9_tries_129 : decode cX9_tries 129 = .ok (.putfield 183, 3) := by decide +kernel
theorem dX9_tries_132 : decode cX9_tries 132 = .ok (.return_, 1) := by decide +kernel
theorem dX9_quartersBy_0 : decode cX9_quartersBy 0 = .ok (.iload_n 0, 1) := by decide +kernel
theorem dX9_quartersBy_1 : decode cX9_quartersBy 1 = .ok (.ifCond .eq 7, 3) := by decide +kernel
theorem dX9_quartersBy_4 : decode cX9_quartersBy 4 = .ok (.iload_n 1, 1) := by decide +kernel
theorem dX9_quartersBy_5 : decode cX9_quartersBy 5 = .ok (.ifCond .ne 5, 3) := by decide +kernel
theorem dX9_quartersBy_8 : decode cX9_quartersBy 8 = .ok (.iconst 0, 1) := by decide +kernel
theorem dX9_quartersBy_9 : decode cX9_quartersBy 9 = .ok (.ireturn, 1) := by decide +kernel
theorem dX9_quartersBy_10 : decode cX9_quartersBy 10 = .ok (.iload_n 0, 1) := by decide +kernel
theorem dX9_quartersBy_11 : decode cX9_quartersBy 11 = .ok (.iload_n 1, 1) := by decide +kernel
theorem dX9_quartersBy_12 : decode cX9_quartersBy 12 = .ok (.imul, 1) := by decide +kernel
theorem dX9_quartersBy_13 : decode cX9_quartersBy 13 = .ok (.iconst 5, 1) := by decide +kernel
theorem dX9_quartersBy_14 : decode cX9_quartersBy 14 = .ok (.iload_n 2, 1) := by decide +kernel
theorem dX9_quartersBy_15 : decode cX9_quartersBy 15 = .ok (.imul, 1) := by decide +kernel
theorem dX9_quartersBy_16 : decode cX9_quartersBy 16 = .ok (.iadd, 1) := by decide +kernel
theorem dX9_quartersBy_17 : decode cX9_quartersBy 17 = .ok (.bipush 20, 2) := by decide +kernel
theorem dX9_quartersBy_19 : decode cX9_quartersBy 19 = .ok (.idiv, 1) := by decide +kernel
theorem dX9_quartersBy_20 : decode cX9_quartersBy 20 = .ok (.istore 4, 2) := by decide +kernel
theorem dX9_quartersBy_22 : decode cX9_quartersBy 22 = .ok (.iload 4, 2) := by decide +kernel
theorem dX9_quartersBy_24 : decode cX9_quartersBy 24 = .ok (.iconst 4, 1) := by decide +kernel
theorem dX9_quartersBy_25 : decode cX9_quartersBy 25 = .ok (.if_icmp .le 7, 3) := by decide +kernel
theorem dX9_quartersBy_28 : decode cX9_quartersBy 28 = .ok (.iconst 4, 1) := by decide +kernel
theorem dX9_quartersBy_29 : decode cX9_quartersBy 29 = .ok (.goto 5, 3) := by decide +kernel
theorem dX9_quartersBy_32 : decode cX9_quartersBy 32 = .ok (.iload 4, 2) := by decide +kernel
theorem dX9_quartersBy_34 : decode cX9_quartersBy 34 = .ok (.istore 4, 2) := by decide +kernel
theorem dX9_quartersBy_36 : decode cX9_quartersBy 36 = .ok (.iload 4, 2) := by decide +kernel
theorem dX9_quartersBy_38 : decode cX9_quartersBy 38 = .ok (.iload_n 3, 1) := by decide +kernel
theorem dX9_quartersBy_39 : decode cX9_quartersBy 39 = .ok (.ifCond .eq 7, 3) := by decide +kernel
theorem dX9_quartersBy_42 : decode cX9_quartersBy 42 = .ok (.iconst 2, 1) := by decide +kernel
theorem dX9_quartersBy_43 : decode cX9_quartersBy 43 = .ok (.goto 4, 3) := by decide +kernel
theorem dX9_quartersBy_46 : decode cX9_quartersBy 46 = .ok (.iconst 0, 1) := by decide +kernel
theorem dX9_quartersBy_47 : decode cX9_quartersBy 47 = .ok (.isub, 1) := by decide +kernel
theorem dX9_quartersBy_48 : decode cX9_quartersBy 48 = .ok (.istore 4, 2) := by decide +kernel
theorem dX9_quartersBy_50 : decode cX9_quartersBy 50 = .ok (.iload 4, 2) := by decide +kernel
theorem dX9_quartersBy_52 : decode cX9_quartersBy 52 = .ok (.ifCond .ge 7, 3) := by decide +kernel
theorem dX9_quartersBy_55 : decode cX9_quartersBy 55 = .ok (.iconst 0, 1) := by decide +kernel
theorem dX9_quartersBy_56 : decode cX9_quartersBy 56 = .ok (.goto 5, 3) := by decide +kernel
theorem dX9_quartersBy_59 : decode cX9_quartersBy 59 = .ok (.iload 4, 2) := by decide +kernel
theorem dX9_quartersBy_61 : decode cX9_quartersBy 61 = .ok (.ireturn, 1) := by decide +kernel
theorem dX9_isThere_0 : decode cX9_isThere 0 = .ok (.aload_n 0, 1) := by decide +kernel
theorem dX9_isThere_1 : decode cX9_isThere 1 = .ok (.getfield 43, 3) := by decide +kernel
theorem dX9_isThere_4 : decode cX9_isThere 4 = .ok (.iload_n 1, 1) := by decide +kernel
theorem dX9_isThere_5 : decode cX9_isThere 5 = .ok (.iaload, 1) := by decide +kernel
theorem dX9_isThere_6 : decode cX9_isThere 6 = .ok (.iload_n 2, 1) := by decide +kernel
theorem dX9_isThere_7 : decode cX9_isThere 7 = .ok (.if_icmp .le 18, 3) := by decide +kernel
theorem dX9_isThere_10 : decode cX9_isThere 10 = .ok (.aload_n 0, 1) := by decide +kernel
theorem dX9_isThere_11 : decode cX9_isThere 11 = .ok (.getfield 183, 3) := by decide +kernel
theorem dX9_isThere_14 : decode cX9_isThere 14 = .ok (.iload_n 1, 1) := by decide +kernel
theorem dX9_isThere_15 : decode cX9_isThere 15 = .ok (.ishr, 1) := by decide +kernel
theorem dX9_isThere_16 : decode cX9_isThere 16 = .ok (.iconst 1, 1) := by decide +kernel
theorem dX9_isThere_17 : decode cX9_isThere 17 = .ok (.iand, 1) := by decide +kernel
theorem dX9_isThere_18 : decode cX9_isThere 18 = .ok (.ifCond .ne 7, 3) := by decide +kernel
theorem dX9_isThere_21 : decode cX9_isThere 21 = .ok (.iconst 1, 1) := by decide +kernel
theorem dX9_isThere_22 : decode cX9_isThere 22 = .ok (.goto 4, 3) := by decide +kernel
theorem dX9_isThere_25 : decode cX9_isThere 25 = .ok (.iconst 0, 1) := by decide +kernel
theorem dX9_isThere_26 : decode cX9_isThere 26 = .ok (.ireturn, 1) := by decide +kernel
theorem dX9_quartersNow_0 : decode cX9_quartersNow 0 = .ok (.iload_n 2, 1) := by decide +kernel
theorem dX9_quartersNow_1 : decode cX9_quartersNow 1 = .ok (.ifCond .ne 7, 3) := by decide +kernel
theorem dX9_quartersNow_4 : decode cX9_quartersNow 4 = .ok (.iconst 0, 1) := by decide +kernel
theorem dX9_quartersNow_5 : decode cX9_quartersNow 5 = .ok (.goto 13, 3) := by decide +kernel
theorem dX9_quartersNow_8 : decode cX9_quartersNow 8 = .ok (.aload_n 0, 1) := by decide +kernel
theorem dX9_quartersNow_9 : decode cX9_quartersNow 9 = .ok (.getfield 49, 3) := by decide +kernel
theorem dX9_quartersNow_12 : decode cX9_quartersNow 12 = .ok (.iload_n 2, 1) := by decide +kernel
theorem dX9_quartersNow_13 : decode cX9_quartersNow 13 = .ok (.iconst 1, 1) := by decide +kernel
theorem dX9_quartersNow_14 : decode cX9_quartersNow 14 = .ok (.isub, 1) := by decide +kernel
theorem dX9_quartersNow_15 : decode cX9_quartersNow 15 = .ok (.iaload, 1) := by decide +kernel
theorem dX9_quartersNow_16 : decode cX9_quartersNow 16 = .ok (.iconst 2, 1) := by decide +kernel
theorem dX9_quartersNow_17 : decode cX9_quartersNow 17 = .ok (.idiv, 1) := by decide +kernel
theorem dX9_quartersNow_18 : decode cX9_quartersNow 18 = .ok (.istore_n 3, 1) := by decide +kernel
theorem dX9_quartersNow_19 : decode cX9_quartersNow 19 = .ok (.aload_n 0, 1) := by decide +kernel
theorem dX9_quartersNow_20 : decode cX9_quartersNow 20 = .ok (.iload_n 1, 1) := by decide +kernel
theorem dX9_quartersNow_21 : decode cX9_quartersNow 21 = .ok (.iload_n 2, 1) := by decide +kernel
theorem dX9_quartersNow_22 : decode cX9_quartersNow 22 = .ok (.invokevirtual 186, 3) := by decide +kernel
theorem dX9_quartersNow_25 : decode cX9_quartersNow 25 = .ok (.ifCond .eq 41, 3) := by decide +kernel
theorem dX9_quartersNow_28 : decode cX9_quartersNow 28 = .ok (.aload_n 0, 1) := by decide +kernel
theorem dX9_quartersNow_29 : decode cX9_quartersNow 29 = .ok (.getfield 46, 3) := by decide +kernel
theorem dX9_quartersNow_32 : decode cX9_quartersNow 32 = .ok (.iload_n 1, 1) := by decide +kernel
theorem dX9_quartersNow_33 : decode cX9_quartersNow 33 = .ok (.iaload, 1) := by decide +kernel
theorem dX9_quartersNow_34 : decode cX9_quartersNow 34 = .ok (.aload_n 0, 1) := by decide +kernel
theorem dX9_quartersNow_35 : decode cX9_quartersNow 35 = .ok (.getfield 49, 3) := by decide +kernel
theorem dX9_quartersNow_38 : decode cX9_quartersNow 38 = .ok (.iload_n 2, 1) := by decide +kernel
theorem dX9_quartersNow_39 : decode cX9_quartersNow 39 = .ok (.iaload, 1) := by decide +kernel
theorem dX9_quartersNow_40 : decode cX9_quartersNow 40 = .ok (.iload_n 3, 1) := by decide +kernel
theorem dX9_quartersNow_41 : decode cX9_quartersNow 41 = .ok (.aload_n 0, 1) := by decide +kernel
theorem dX9_quartersNow_42 : decode cX9_quartersNow 42 = .ok (.getfield 40, 3) := by decide +kernel
theorem dX9_quartersNow_45 : decode cX9_quartersNow 45 = .ok (.iload_n 1, 1) := by decide +kernel
theorem dX9_quartersNow_46 : decode cX9_quartersNow 46 = .ok (.iaload, 1) := by decide +kernel
theorem dX9_quartersNow_47 : decode cX9_quartersNow 47 = .ok (.iload_n 2, 1) := by decide +kernel
theorem dX9_quartersNow_48 : decode cX9_quartersNow 48 = .ok (.ishr, 1) := by decide +kernel
theorem dX9_quartersNow_49 : decode cX9_quartersNow 49 = .ok (.iconst 1, 1) := by decide +kernel
theorem dX9_quartersNow_50 : decode cX9_quartersNow 50 = .ok (.iand, 1) := by decide +kernel
theorem dX9_quartersNow_51 : decode cX9_quartersNow 51 = .ok (.iconst 1, 1) := by decide +kernel
theorem dX9_quartersNow_52 : decode cX9_quartersNow 52 = .ok (.if_icmp .ne 7, 3) := by decide +kernel
theorem dX9_quartersNow_55 : decode cX9_quartersNow 55 = .ok (.iconst 1, 1) := by decide +kernel
theorem dX9_quartersNow_56 : decode cX9_quartersNow 56 = .ok (.goto 4, 3) := by decide +kernel
theorem dX9_quartersNow_59 : decode cX9_quartersNow 59 = .ok (.iconst 0, 1) := by decide +kernel
theorem dX9_quartersNow_60 : decode cX9_quartersNow 60 = .ok (.invokestatic 190, 3) := by decide +kernel
theorem dX9_quartersNow_63 : decode cX9_quartersNow 63 = .ok (.goto 4, 3) := by decide +kernel
theorem dX9_quartersNow_66 : decode cX9_quartersNow 66 = .ok (.iconst 0, 1) := by decide +kernel
theorem dX9_quartersNow_67 : decode cX9_quartersNow 67 = .ok (.ireturn, 1) := by decide +kernel
theorem dX9_quartersOf_0 : decode cX9_quartersOf 0 = .ok (.aload_n 0, 1) := by decide +kernel
theorem dX9_quartersOf_1 : decode cX9_quartersOf 1 = .ok (.invokevirtual 194, 3) := by decide +kernel
theorem dX9_quartersOf_4 : decode cX9_quartersOf 4 = .ok (.aload_n 0, 1) := by decide +kernel
theorem dX9_quartersOf_5 : decode cX9_quartersOf 5 = .ok (.iload_n 1, 1) := by decide +kernel
theorem dX9_quartersOf_6 : decode cX9_quartersOf 6 = .ok (.iload_n 2, 1) := by decide +kernel
theorem dX9_quartersOf_7 : decode cX9_quartersOf 7 = .ok (.invokevirtual 197, 3) := by decide +kernel
theorem dX9_quartersOf_10 : decode cX9_quartersOf 10 = .ok (.ireturn, 1) := by decide +kernel
theorem dX9_quarters_0 : decode cX9_quarters 0 = .ok (.aload_n 0, 1) := by decide +kernel
theorem dX9_quarters_1 : decode cX9_quarters 1 = .ok (.iload_n 1, 1) := by decide +kernel
theorem dX9_quarters_2 : decode cX9_quarters 2 = .ok (.invokevirtual 158, 3) := by decide +kernel
theorem dX9_quarters_5 : decode cX9_quarters 5 = .ok (.ifCond .eq 28, 3) := by decide +kernel
theorem dX9_quarters_8 : decode cX9_quarters 8 = .ok (.iload_n 2, 1) := by decide +kernel
theorem dX9_quarters_9 : decode cX9_quarters 9 = .ok (.i2l, 1) := by decide +kernel
theorem dX9_quarters_10 : decode cX9_quarters 10 = .ok (.lconst 0, 1) := by decide +kernel
theorem dX9_quarters_11 : decode cX9_quarters 11 = .ok (.aload_n 0, 1) := by decide +kernel
theorem dX9_quarters_12 : decode cX9_quarters 12 = .ok (.getfield 129, 3) := by decide +kernel
theorem dX9_quarters_15 : decode cX9_quarters 15 = .ok (.iconst 1, 1) := by decide +kernel
theorem dX9_quarters_16 : decode cX9_quarters 16 = .ok (.isub, 1) := by decide +kernel
theorem dX9_quarters_17 : decode cX9_quarters 17 = .ok (.i2l, 1) := by decide +kernel
theorem dX9_quarters_18 : decode cX9_quarters 18 = .ok (.invokestatic 89, 3) := by decide +kernel
theorem dX9_quarters_21 : decode cX9_quarters 21 = .ok (.ifCond .eq 12, 3) := by decide +kernel
theorem dX9_quarters_24 : decode cX9_quarters 24 = .ok (.aload_n 0, 1) := by decide +kernel
theorem dX9_quarters_25 : decode cX9_quarters 25 = .ok (.iload_n 1, 1) := by decide +kernel
theorem dX9_quarters_26 : decode cX9_quarters 26 = .ok (.iload_n 2, 1) := by decide +kernel
theorem dX9_quarters_27 : decode cX9_quarters 27 = .ok (.invokevirtual 200, 3) := by decide +kernel
theorem dX9_quarters_30 : decode cX9_quarters 30 = .ok (.goto 5, 3) := by decide +kernel
theorem dX9_quarters_33 : decode cX9_quarters 33 = .ok (.bipush (-2), 2) := by decide +kernel
theorem dX9_quarters_35 : decode cX9_quarters 35 = .ok (.ireturn, 1) := by decide +kernel
theorem dX9_ones_0 : decode cX9_ones 0 = .ok (.iconst 0, 1) := by decide +kernel
theorem dX9_ones_1 : decode cX9_ones 1 = .ok (.istore_n 1, 1) := by decide +kernel
theorem dX9_ones_2 : decode cX9_ones 2 = .ok (.iload_n 0, 1) := by decide +kernel
theorem dX9_ones_3 : decode cX9_ones 3 = .ok (.istore_n 2, 1) := by decide +kernel
theorem dX9_ones_4 : decode cX9_ones 4 = .ok (.iload_n 2, 1) := by decide +kernel
theorem dX9_ones_5 : decode cX9_ones 5 = .ok (.ifCond .eq 15, 3) := by decide +kernel
theorem dX9_ones_8 : decode cX9_ones 8 = .ok (.iinc 1 1, 3) := by decide +kernel
theorem dX9_ones_11 : decode cX9_ones 11 = .ok (.iload_n 2, 1) := by decide +kernel
theorem dX9_ones_12 : decode cX9_ones 12 = .ok (.iload_n 2, 1) := by decide +kernel
theorem dX9_ones_13 : decode cX9_ones 13 = .ok (.iconst 1, 1) := by decide +kernel
theorem dX9_ones_14 : decode cX9_ones 14 = .ok (.isub, 1) := by decide +kernel
theorem dX9_ones_15 : decode cX9_ones 15 = .ok (.iand, 1) := by decide +kernel
theorem dX9_ones_16 : decode cX9_ones 16 = .ok (.istore_n 2, 1) := by decide +kernel
theorem dX9_ones_17 : decode cX9_ones 17 = .ok (.goto (-13), 3) := by decide +kernel
theorem dX9_ones_20 : decode cX9_ones 20 = .ok (.iload_n 1, 1) := by decide +kernel
theorem dX9_ones_21 : decode cX9_ones 21 = .ok (.ireturn, 1) := by decide +kernel
theorem dX9_comes_0 : decode cX9_comes 0 = .ok (.iload_n 1, 1) := by decide +kernel
theorem dX9_comes_1 : decode cX9_comes 1 = .ok (.bipush 10, 2) := by decide +kernel
theorem dX9_comes_3 : decode cX9_comes 3 = .ok (.idiv, 1) := by decide +kernel
theorem dX9_comes_4 : decode cX9_comes 4 = .ok (.istore 5, 2) := by decide +kernel
theorem dX9_comes_6 : decode cX9_comes 6 = .ok (.iload_n 1, 1) := by decide +kernel
theorem dX9_comes_7 : decode cX9_comes 7 = .ok (.iconst 2, 1) := by decide +kernel
theorem dX9_comes_8 : decode cX9_comes 8 = .ok (.idiv, 1) := by decide +kernel
theorem dX9_comes_9 : decode cX9_comes 9 = .ok (.iconst 5, 1) := by decide +kernel
theorem dX9_comes_10 : decode cX9_comes 10 = .ok (.irem, 1) := by decide +kernel
theorem dX9_comes_11 : decode cX9_comes 11 = .ok (.istore 6, 2) := by decide +kernel
theorem dX9_comes_13 : decode cX9_comes 13 = .ok (.iload_n 1, 1) := by decide +kernel
theorem dX9_comes_14 : decode cX9_comes 14 = .ok (.iconst 2, 1) := by decide +kernel
theorem dX9_comes_15 : decode cX9_comes 15 = .ok (.irem, 1) := by decide +kernel
theorem dX9_comes_16 : decode cX9_comes 16 = .ok (.istore 7, 2) := by decide +kernel
theorem dX9_comes_18 : decode cX9_comes 18 = .ok (.aload_n 0, 1) := by decide +kernel
theorem dX9_comes_19 : decode cX9_comes 19 = .ok (.getfield 174, 3) := by decide +kernel
theorem dX9_comes_22 : decode cX9_comes 22 = .ok (.iconst 1, 1) := by decide +kernel
theorem dX9_comes_23 : decode cX9_comes 23 = .ok (.if_icmp .ne 36, 3) := by decide +kernel
theorem dX9_comes_26 : decode cX9_comes 26 = .ok (.aload_n 0, 1) := by decide +kernel
theorem dX9_comes_27 : decode cX9_comes 27 = .ok (.getfield 56, 3) := by decide +kernel
theorem dX9_comes_30 : decode cX9_comes 30 = .ok (.iload 7, 2) := by decide +kernel
theorem dX9_comes_32 : decode cX9_comes 32 = .ok (.iconst 1, 1) := by decide +kernel
theorem dX9_comes_33 : decode cX9_comes 33 = .ok (.if_icmp .ne 7, 3) := by decide +kernel
theorem dX9_comes_36 : decode cX9_comes 36 = .ok (.iload_n 1, 1) := by decide +kernel
theorem dX9_comes_37 : decode cX9_comes 37 = .ok (.goto 14, 3) := by decide +kernel
theorem dX9_comes_40 : decode cX9_comes 40 = .ok (.bipush 10, 2) := by decide +kernel
theorem dX9_comes_42 : decode cX9_comes 42 = .ok (.iload_n 2, 1) := by decide +kernel
theorem dX9_comes_43 : decode cX9_comes 43 = .ok (.imul, 1) := by decide +kernel
theorem dX9_comes_44 : decode cX9_comes 44 = .ok (.iconst 2, 1) := by decide +kernel
theorem dX9_comes_45 : decode cX9_comes 45 = .ok (.iload 6, 2) := by decide +kernel
theorem dX9_comes_47 : decode cX9_comes 47 = .ok (.imul, 1) := by decide +kernel
theorem dX9_comes_48 : decode cX9_comes 48 = .ok (.iadd, 1) := by decide +kernel
theorem dX9_comes_49 : decode cX9_comes 49 = .ok (.iconst 1, 1) := by decide +kernel
theorem dX9_comes_50 : decode cX9_comes 50 = .ok (.iadd, 1) := by decide +kernel
theorem dX9_comes_51 : decode cX9_comes 51 = .ok (.dup2, 1) := by decide +kernel
theorem dX9_comes_52 : decode cX9_comes 52 = .ok (.laload, 1) := by decide +kernel
theorem dX9_comes_53 : decode cX9_comes 53 = .ok (.lload_n 3, 1) := by decide +kernel
theorem dX9_comes_54 : decode cX9_comes 54 = .ok (.ladd, 1) := by decide +kernel
theorem dX9_comes_55 : decode cX9_comes 55 = .ok (.lastore, 1) := by decide +kernel
theorem dX9_comes_56 : decode cX9_comes 56 = .ok (.goto 45, 3) := by decide +kernel
theorem dX9_comes_59 : decode cX9_comes 59 = .ok (.aload_n 0, 1) := by decide +kernel
theorem dX9_comes_60 : decode cX9_comes 60 = .ok (.getfield 174, 3) := by decide +kernel
theorem dX9_comes_63 : decode cX9_comes 63 = .ok (.iconst 2, 1) := by decide +kernel
theorem dX9_comes_64 : decode cX9_comes 64 = .ok (.if_icmp .ne 13, 3) := by decide +kernel
theorem dX9_comes_67 : decode cX9_comes 67 = .ok (.iload_n 2, 1) := by decide +kernel
theorem dX9_comes_68 : decode cX9_comes 68 = .ok (.iload 5, 2) := by decide +kernel
theorem dX9_comes_70 : decode cX9_comes 70 = .ok (.if_icmp .eq 7, 3) := by decide +kernel
theorem dX9_comes_73 : decode cX9_comes 73 = .ok (.iconst 1, 1) := by decide +kernel
theorem dX9_comes_74 : decode cX9_comes 74 = .ok (.goto 4, 3) := by decide +kernel
theorem dX9_comes_77 : decode cX9_comes 77 = .ok (.iconst 0, 1) := by decide +kernel
theorem dX9_comes_78 : decode cX9_comes 78 = .ok (.istore 8, 2) := by decide +kernel
theorem dX9_comes_80 : decode cX9_comes 80 = .ok (.aload_n 0, 1) := by decide +kernel
theorem dX9_comes_81 : decode cX9_comes 81 = .ok (.getfield 56, 3) := by decide +kernel
theorem dX9_comes_84 : decode cX9_comes 84 = .ok (.bipush 10, 2) := by decide +kernel
theorem dX9_comes_86 : decode cX9_comes 86 = .ok (.iload_n 2, 1) := by decide +kernel
theorem dX9_comes_87 : decode cX9_comes 87 = .ok (.imul, 1) := by decide +kernel
theorem dX9_comes_88 : decode cX9_comes 88 = .ok (.iconst 2, 1) := by decide +kernel
theorem dX9_comes_89 : decode cX9_comes 89 = .ok (.iload 6, 2) := by decide +kernel
theorem dX9_comes_91 : decode cX9_comes 91 = .ok (.iload 8, 2) := by decide +kernel
theorem dX9_comes_93 : decode cX9_comes 93 = .ok (.iadd, 1) := by decide +kernel
theorem dX9_comes_94 : decode cX9_comes 94 = .ok (.imul, 1) := by decide +kernel
theorem dX9_comes_95 : decode cX9_comes 95 = .ok (.iadd, 1) := by decide +kernel
theorem dX9_comes_96 : decode cX9_comes 96 = .ok (.dup2, 1) := by decide +kernel
theorem dX9_comes_97 : decode cX9_comes 97 = .ok (.laload, 1) := by decide +kernel
theorem dX9_comes_98 : decode cX9_comes 98 = .ok (.lload_n 3, 1) := by decide +kernel
theorem dX9_comes_99 : decode cX9_comes 99 = .ok (.ladd, 1) := by decide +kernel
theorem dX9_comes_100 : decode cX9_comes 100 = .ok (.lastore, 1) := by decide +kernel
theorem dX9_comes_101 : decode cX9_comes 101 = .ok (.return_, 1) := by decide +kernel
theorem dX9_laugh_0 : decode cX9_laugh 0 = .ok (.iload_n 2, 1) := by decide +kernel
theorem dX9_laugh_1 : decode cX9_laugh 1 = .ok (.invokestatic 203, 3) := by decide +kernel
theorem dX9_laugh_4 : decode cX9_laugh 4 = .ok (.istore 5, 2) := by decide +kernel
theorem dX9_laugh_6 : decode cX9_laugh 6 = .ok (.iload 5, 2) := by decide +kernel
theorem dX9_laugh_8 : decode cX9_laugh 8 = .ok (.ifCond .eq 16, 3) := by decide +kernel
theorem dX9_laugh_11 : decode cX9_laugh 11 = .ok (.iload 5, 2) := by decide +kernel
theorem dX9_laugh_13 : decode cX9_laugh 13 = .ok (.iconst 1, 1) := by decide +kernel
theorem dX9_laugh_14 : decode cX9_laugh 14 = .ok (.if_icmp .le 25, 3) := by decide +kernel
theorem dX9_laugh_17 : decode cX9_laugh 17 = .ok (.aload_n 0, 1) := by decide +kernel
theorem dX9_laugh_18 : decode cX9_laugh 18 = .ok (.getfield 177, 3) := by decide +kernel
theorem dX9_laugh_21 : decode cX9_laugh 21 = .ok (.ifCond .ne 18, 3) := by decide +kernel
theorem dX9_laugh_24 : decode cX9_laugh 24 = .ok (.aload_n 0, 1) := by decide +kernel
theorem dX9_laugh_25 : decode cX9_laugh 25 = .ok (.getfield 56, 3) := by decide +kernel
theorem dX9_laugh_28 : decode cX9_laugh 28 = .ok (.iload_n 1, 1) := by decide +kernel
theorem dX9_laugh_29 : decode cX9_laugh 29 = .ok (.dup2, 1) := by decide +kernel
theorem dX9_laugh_30 : decode cX9_laugh 30 = .ok (.laload, 1) := by decide +kernel
theorem dX9_laugh_31 : decode cX9_laugh 31 = .ok (.ldc2_w 206, 3) := by decide +kernel
theorem dX9_laugh_34 : decode cX9_laugh 34 = .ok (.lload_n 3, 1) := by decide +kernel
theorem dX9_laugh_35 : decode cX9_laugh 35 = .ok (.lmul, 1) := by decide +kernel
theorem dX9_laugh_36 : decode cX9_laugh 36 = .ok (.ladd, 1) := by decide +kernel
theorem dX9_laugh_37 : decode cX9_laugh 37 = .ok (.lastore, 1) := by decide +kernel
theorem dX9_laugh_38 : decode cX9_laugh 38 = .ok (.return_, 1) := by decide +kernel
theorem dX9_laugh_39 : decode cX9_laugh 39 = .ok (.iload 5, 2) := by decide +kernel
theorem dX9_laugh_41 : decode cX9_laugh 41 = .ok (.iconst 1, 1) := by decide +kernel
theorem dX9_laugh_42 : decode cX9_laugh 42 = .ok (.if_icmp .le 15, 3) := by decide +kernel
theorem dX9_laugh_45 : decode cX9_laugh 45 = .ok (.aload_n 0, 1) := by decide +kernel
theorem dX9_laugh_46 : decode cX9_laugh 46 = .ok (.getfield 177, 3) := by decide +kernel
theorem dX9_laugh_49 : decode cX9_laugh 49 = .ok (.iconst 2, 1) := by decide +kernel
theorem dX9_laugh_50 : decode cX9_laugh 50 = .ok (.if_icmp .ne 7, 3) := by decide +kernel
theorem dX9_laugh_53 : decode cX9_laugh 53 = .ok (.iconst 1, 1) := by decide +kernel
theorem dX9_laugh_54 : decode cX9_laugh 54 = .ok (.goto 4, 3) := by decide +kernel
theorem dX9_laugh_57 : decode cX9_laugh 57 = .ok (.iconst 0, 1) := by decide +kernel
theorem dX9_laugh_58 : decode cX9_laugh 58 = .ok (.istore 6, 2) := by decide +kernel
theorem dX9_laugh_60 : decode cX9_laugh 60 = .ok (.iconst 1, 1) := by decide +kernel
theorem dX9_laugh_61 : decode cX9_laugh 61 = .ok (.istore 7, 2) := by decide +kernel
theorem dX9_laugh_63 : decode cX9_laugh 63 = .ok (.iconst 0, 1) := by decide +kernel
theorem dX9_laugh_64 : decode cX9_laugh 64 = .ok (.istore 8, 2) := by decide +kernel
theorem dX9_laugh_66 : decode cX9_laugh 66 = .ok (.iload 8, 2) := by decide +kernel
theorem dX9_laugh_68 : decode cX9_laugh 68 = .ok (.aload_n 0, 1) := by decide +kernel
theorem dX9_laugh_69 : decode cX9_laugh 69 = .ok (.getfield 171, 3) := by decide +kernel
theorem dX9_laugh_72 : decode cX9_laugh 72 = .ok (.if_icmp .ge 61, 3) := by decide +kernel
theorem dX9_laugh_75 : decode cX9_laugh 75 = .ok (.iload_n 2, 1) := by decide +kernel
theorem dX9_laugh_76 : decode cX9_laugh 76 = .ok (.iload 8, 2) := by decide +kernel
theorem dX9_laugh_78 : decode cX9_laugh 78 = .ok (.ishr, 1) := by decide +kernel
theorem dX9_laugh_79 : decode cX9_laugh 79 = .ok (.iconst 1, 1) := by decide +kernel
theorem dX9_laugh_80 : decode cX9_laugh 80 = .ok (.iand, 1) := by decide +kernel
theorem dX9_laugh_81 : decode cX9_laugh 81 = .ok (.iconst 1, 1) := by decide +kernel
theorem dX9_laugh_82 : decode cX9_laugh 82 = .ok (.if_icmp .ne 45, 3) := by decide +kernel
theorem dX9_laugh_85 : decode cX9_laugh 85 = .ok (.iload 6, 2) := by decide +kernel
theorem dX9_laugh_87 : decode cX9_laugh 87 = .ok (.ifCond .ne 8, 3) := by decide +kernel
theorem dX9_laugh_90 : decode cX9_laugh 90 = .ok (.iload 7, 2) := by decide +kernel
theorem dX9_laugh_92 : decode cX9_laugh 92 = .ok (.ifCond .eq 35, 3) := by decide +kernel
theorem dX9_laugh_95 : decode cX9_laugh 95 = .ok (.aload_n 0, 1) := by decide +kernel
theorem dX9_laugh_96 : decode cX9_laugh 96 = .ok (.iload_n 1, 1) := by decide +kernel
theorem dX9_laugh_97 : decode cX9_laugh 97 = .ok (.iload 8, 2) := by decide +kernel
theorem dX9_laugh_99 : decode cX9_laugh 99 = .ok (.iload 6, 2) := by decide +kernel
theorem dX9_laugh_101 : decode cX9_laugh 101 = .ok (.ifCond .eq 15, 3) := by decide +kernel
theorem dX9_laugh_104 : decode cX9_laugh 104 = .ok (.ldc2_w 206, 3) := by decide +kernel
theorem dX9_laugh_107 : decode cX9_laugh 107 = .ok (.iload 5, 2) := by decide +kernel
theorem dX9_laugh_109 : decode cX9_laugh 109 = .ok (.i2l, 1) := by decide +kernel
theorem dX9_laugh_110 : decode cX9_laugh 110 = .ok (.ldiv, 1) := by decide +kernel
theorem dX9_laugh_111 : decode cX9_laugh 111 = .ok (.lload_n 3, 1) := by decide +kernel
theorem dX9_laugh_112 : decode cX9_laugh 112 = .ok (.lmul, 1) := by decide +kernel
theorem dX9_laugh_113 : decode cX9_laugh 113 = .ok (.goto 8, 3) := by decide +kernel
theorem dX9_laugh_116 : decode cX9_laugh 116 = .ok (.ldc2_w 206, 3) := by decide +kernel
theorem dX9_laugh_119 : decode cX9_laugh 119 = .ok (.lload_n 3, 1) := by decide +kernel
theorem dX9_laugh_120 : decode cX9_laugh 120 = .ok (.lmul, 1) := by decide +kernel
theorem dX9_laugh_121 : decode cX9_laugh 121 = .ok (.invokevirtual 208, 3) := by decide +kernel
theorem dX9_laugh_124 : decode cX9_laugh 124 = .ok (.iconst 0, 1) := by decide +kernel
theorem dX9_laugh_125 : decode cX9_laugh 125 = .ok (.istore 7, 2) := by decide +kernel
theorem dX9_laugh_127 : decode cX9_laugh 127 = .ok (.iinc 8 1, 3) := by decide +kernel
theorem dX9_laugh_130 : decode cX9_laugh 130 = .ok (.goto (-64), 3) := by decide +kernel
theorem dX9_laugh_133 : decode cX9_laugh 133 = .ok (.return_, 1) := by decide +kernel
theorem dX9_tells_0 : decode cX9_tells 0 = .ok (.iconst 0, 1) := by decide +kernel
theorem dX9_tells_1 : decode cX9_tells 1 = .ok (.istore_n 2, 1) := by decide +kernel
theorem dX9_tells_2 : decode cX9_tells 2 = .ok (.iload_n 2, 1) := by decide +kernel
theorem dX9_tells_3 : decode cX9_tells 3 = .ok (.bipush 50, 2) := by decide +kernel
theorem dX9_tells_5 : decode cX9_tells 5 = .ok (.if_icmp .ge 16, 3) := by decide +kernel
theorem dX9_tells_8 : decode cX9_tells 8 = .ok (.aload_n 0, 1) := by decide +kernel
theorem dX9_tells_9 : decode cX9_tells 9 = .ok (.getfield 56, 3) := by decide +kernel
theorem dX9_tells_12 : decode cX9_tells 12 = .ok (.iload_n 2, 1) := by decide +kernel
theorem dX9_tells_13 : decode cX9_tells 13 = .ok (.lconst 0, 1) := by decide +kernel
theorem dX9_tells_14 : decode cX9_tells 14 = .ok (.lastore, 1) := by decide +kernel
theorem dX9_tells_15 : decode cX9_tells 15 = .ok (.iinc 2 1, 3) := by decide +kernel
theorem dX9_tells_18 : decode cX9_tells 18 = .ok (.goto (-16), 3) := by decide +kernel
theorem dX9_tells_21 : decode cX9_tells 21 = .ok (.iconst 0, 1) := by decide +kernel
theorem dX9_tells_22 : decode cX9_tells 22 = .ok (.istore_n 2, 1) := by decide +kernel
theorem dX9_tells_23 : decode cX9_tells 23 = .ok (.iload_n 2, 1) := by decide +kernel
theorem dX9_tells_24 : decode cX9_tells 24 = .ok (.iconst 1, 1) := by decide +kernel
theorem dX9_tells_25 : decode cX9_tells 25 = .ok (.aload_n 0, 1) := by decide +kernel
theorem dX9_tells_26 : decode cX9_tells 26 = .ok (.getfield 171, 3) := by decide +kernel
theorem dX9_tells_29 : decode cX9_tells 29 = .ok (.ishl, 1) := by decide +kernel
theorem dX9_tells_30 : decode cX9_tells 30 = .ok (.if_icmp .ge 122, 3) := by decide +kernel
theorem dX9_tells_33 : decode cX9_tells 33 = .ok (.lconst 1, 1) := by decide +kernel
theorem dX9_tells_34 : decode cX9_tells 34 = .ok (.lstore_n 3, 1) := by decide +kernel
theorem dX9_tells_35 : decode cX9_tells 35 = .ok (.iconst 0, 1) := by decide +kernel
theorem dX9_tells_36 : decode cX9_tells 36 = .ok (.istore 5, 2) := by decide +kernel
theorem dX9_tells_38 : decode cX9_tells 38 = .ok (.iload 5, 2) := by decide +kernel
theorem dX9_tells_40 : decode cX9_tells 40 = .ok (.iconst 4, 1) := by decide +kernel
theorem dX9_tells_41 : decode cX9_tells 41 = .ok (.if_icmp .ge 55, 3) := by decide +kernel
theorem dX9_tells_44 : decode cX9_tells 44 = .ok (.iload 5, 2) := by decide +kernel
theorem dX9_tells_46 : decode cX9_tells 46 = .ok (.aload_n 0, 1) := by decide +kernel
theorem dX9_tells_47 : decode cX9_tells 47 = .ok (.getfield 171, 3) := by decide +kernel
theorem dX9_tells_50 : decode cX9_tells 50 = .ok (.if_icmp .ge 13, 3) := by decide +kernel
theorem dX9_tells_53 : decode cX9_tells 53 = .ok (.aload_n 0, 1) := by decide +kernel
theorem dX9_tells_54 : decode cX9_tells 54 = .ok (.iload 5, 2) := by decide +kernel
theorem dX9_tells_56 : decode cX9_tells 56 = .ok (.iload_n 1, 1) := by decide +kernel
theorem dX9_tells_57 : decode cX9_tells 57 = .ok (.invokevirtual 197, 3) := by decide +kernel
theorem dX9_tells_60 : decode cX9_tells 60 = .ok (.goto 4, 3) := by decide +kernel
theorem dX9_tells_63 : decode cX9_tells 63 = .ok (.iconst 0, 1) := by decide +kernel
theorem dX9_tells_64 : decode cX9_tells 64 = .ok (.istore 6, 2) := by decide +kernel
theorem dX9_tells_66 : decode cX9_tells 66 = .ok (.lload_n 3, 1) := by decide +kernel
theorem dX9_tells_67 : decode cX9_tells 67 = .ok (.iload_n 2, 1) := by decide +kernel
theorem dX9_tells_68 : decode cX9_tells 68 = .ok (.iload 5, 2) := by decide +kernel
theorem dX9_tells_70 : decode cX9_tells 70 = .ok (.ishr, 1) := by decide +kernel
theorem dX9_tells_71 : decode cX9_tells 71 = .ok (.iconst 1, 1) := by decide +kernel
theorem dX9_tells_72 : decode cX9_tells 72 = .ok (.iand, 1) := by decide +kernel
theorem dX9_tells_73 : decode cX9_tells 73 = .ok (.iconst 1, 1) := by decide +kernel
theorem dX9_tells_74 : decode cX9_tells 74 = .ok (.if_icmp .ne 9, 3) := by decide +kernel
theorem dX9_tells_77 : decode cX9_tells 77 = .ok (.iload 6, 2) := by decide +kernel
theorem dX9_tells_79 : decode cX9_tells 79 = .ok (.i2l, 1) := by decide +kernel
theorem dX9_tells_80 : decode cX9_tells 80 = .ok (.goto 8, 3) := by decide +kernel
theorem dX9_tells_83 : decode cX9_tells 83 = .ok (.iconst 4, 1) := by decide +kernel
theorem dX9_tells_84 : decode cX9_tells 84 = .ok (.iload 6, 2) := by decide +kernel
theorem dX9_tells_86 : decode cX9_tells 86 = .ok (.isub, 1) := by decide +kernel
theorem dX9_tells_87 : decode cX9_tells 87 = .ok (.i2l, 1) := by decide +kernel
theorem dX9_tells_88 : decode cX9_tells 88 = .ok (.lmul, 1) := by decide +kernel
theorem dX9_tells_89 : decode cX9_tells 89 = .ok (.lstore_n 3, 1) := by decide +kernel
theorem dX9_tells_90 : decode cX9_tells 90 = .ok (.iinc 5 1, 3) := by decide +kernel
theorem dX9_tells_93 : decode cX9_tells 93 = .ok (.goto (-55), 3) := by decide +kernel
theorem dX9_tells_96 : decode cX9_tells 96 = .ok (.iconst 0, 1) := by decide +kernel
theorem dX9_tells_97 : decode cX9_tells 97 = .ok (.istore 5, 2) := by decide +kernel
theorem dX9_tells_99 : decode cX9_tells 99 = .ok (.iload 5, 2) := by decide +kernel
theorem dX9_tells_101 : decode cX9_tells 101 = .ok (.bipush 50, 2) := by decide +kernel
theorem dX9_tells_103 : decode cX9_tells 103 = .ok (.if_icmp .ge 43, 3) := by decide +kernel
theorem dX9_tells_106 : decode cX9_tells 106 = .ok (.lload_n 3, 1) := by decide +kernel
theorem dX9_tells_107 : decode cX9_tells 107 = .ok (.lconst 0, 1) := by decide +kernel
theorem dX9_tells_108 : decode cX9_tells 108 = .ok (.lcmp, 1) := by decide +kernel
theorem dX9_tells_109 : decode cX9_tells 109 = .ok (.ifCond .le 37, 3) := by decide +kernel
theorem dX9_tells_112 : decode cX9_tells 112 = .ok (.aload_n 0, 1) := by decide +kernel
theorem dX9_tells_113 : decode cX9_tells 113 = .ok (.getfield 52, 3) := by decide +kernel
theorem dX9_tells_116 : decode cX9_tells 116 = .ok (.iload 5, 2) := by decide +kernel
theorem dX9_tells_118 : decode cX9_tells 118 = .ok (.laload, 1) := by decide +kernel
theorem dX9_tells_119 : decode cX9_tells 119 = .ok (.lconst 0, 1) := by decide +kernel
theorem dX9_tells_120 : decode cX9_tells 120 = .ok (.lcmp, 1) := by decide +kernel
theorem dX9_tells_121 : decode cX9_tells 121 = .ok (.ifCond .le 19, 3) := by decide +kernel
theorem dX9_tells_124 : decode cX9_tells 124 = .ok (.aload_n 0, 1) := by decide +kernel
theorem dX9_tells_125 : decode cX9_tells 125 = .ok (.iload 5, 2) := by decide +kernel
theorem dX9_tells_127 : decode cX9_tells 127 = .ok (.iload_n 2, 1) := by decide +kernel
theorem dX9_tells_128 : decode cX9_tells 128 = .ok (.aload_n 0, 1) := by decide +kernel
theorem dX9_tells_129 : decode cX9_tells 129 = .ok (.getfield 52, 3) := by decide +kernel
theorem dX9_tells_132 : decode cX9_tells 132 = .ok (.iload 5, 2) := by decide +kernel
theorem dX9_tells_134 : decode cX9_tells 134 = .ok (.laload, 1) := by decide +kernel
theorem dX9_tells_135 : decode cX9_tells 135 = .ok (.lload_n 3, 1) := by decide +kernel
theorem dX9_tells_136 : decode cX9_tells 136 = .ok (.lmul, 1) := by decide +kernel
theorem dX9_tells_137 : decode cX9_tells 137 = .ok (.invokevirtual 212, 3) := by decide +kernel
theorem dX9_tells_140 : decode cX9_tells 140 = .ok (.iinc 5 1, 3) := by decide +kernel
theorem dX9_tells_143 : decode cX9_tells 143 = .ok (.goto (-44), 3) := by decide +kernel
theorem dX9_tells_146 : decode cX9_tells 146 = .ok (.iinc 2 1, 3) := by decide +kernel
theorem dX9_tells_149 : decode cX9_tells 149 = .ok (.goto (-126), 3) := by decide +kernel
theorem dX9_tells_152 : decode cX9_tells 152 = .ok (.iconst 0, 1) := by decide +kernel
theorem dX9_tells_153 : decode cX9_tells 153 = .ok (.istore_n 2, 1) := by decide +kernel
theorem dX9_tells_154 : decode cX9_tells 154 = .ok (.iload_n 2, 1) := by decide +kernel
theorem dX9_tells_155 : decode cX9_tells 155 = .ok (.bipush 50, 2) := by decide +kernel
theorem dX9_tells_157 : decode cX9_tells 157 = .ok (.if_icmp .ge 21, 3) := by decide +kernel
theorem dX9_tells_160 : decode cX9_tells 160 = .ok (.aload_n 0, 1) := by decide +kernel
theorem dX9_tells_161 : decode cX9_tells 161 = .ok (.getfield 52, 3) := by decide +kernel
theorem dX9_tells_164 : decode cX9_tells 164 = .ok (.iload_n 2, 1) := by decide +kernel
theorem dX9_tells_165 : decode cX9_tells 165 = .ok (.aload_n 0, 1) := by decide +kernel
theorem dX9_tells_166 : decode cX9_tells 166 = .ok (.getfield 56, 3) := by decide +kernel
theorem dX9_tells_169 : decode cX9_tells 169 = .ok (.iload_n 2, 1) := by decide +kernel
theorem dX9_tells_170 : decode cX9_tells 170 = .ok (.laload, 1) := by decide +kernel
theorem dX9_tells_171 : decode cX9_tells 171 = .ok (.lastore, 1) := by decide +kernel
theorem dX9_tells_172 : decode cX9_tells 172 = .ok (.iinc 2 1, 3) := by decide +kernel
theorem dX9_tells_175 : decode cX9_tells 175 = .ok (.goto (-21), 3) := by decide +kernel
theorem dX9_tells_178 : decode cX9_tells 178 = .ok (.return_, 1) := by decide +kernel
theorem dX9_goes_0 : decode cX9_goes 0 = .ok (.iconst 0, 1) := by decide +kernel
theorem dX9_goes_1 : decode cX9_goes 1 = .ok (.istore_n 2, 1) := by decide +kernel
theorem dX9_goes_2 : decode cX9_goes 2 = .ok (.iload_n 2, 1) := by decide +kernel
theorem dX9_goes_3 : decode cX9_goes 3 = .ok (.bipush 50, 2) := by decide +kernel
theorem dX9_goes_5 : decode cX9_goes 5 = .ok (.if_icmp .ge 16, 3) := by decide +kernel
theorem dX9_goes_8 : decode cX9_goes 8 = .ok (.aload_n 0, 1) := by decide +kernel
theorem dX9_goes_9 : decode cX9_goes 9 = .ok (.getfield 52, 3) := by decide +kernel
theorem dX9_goes_12 : decode cX9_goes 12 = .ok (.iload_n 2, 1) := by decide +kernel
theorem dX9_goes_13 : decode cX9_goes 13 = .ok (.lconst 0, 1) := by decide +kernel
theorem dX9_goes_14 : decode cX9_goes 14 = .ok (.lastore, 1) := by decide +kernel
theorem dX9_goes_15 : decode cX9_goes 15 = .ok (.iinc 2 1, 3) := by decide +kernel
theorem dX9_goes_18 : decode cX9_goes 18 = .ok (.goto (-16), 3) := by decide +kernel
theorem dX9_goes_21 : decode cX9_goes 21 = .ok (.aload_n 0, 1) := by decide +kernel
theorem dX9_goes_22 : decode cX9_goes 22 = .ok (.getfield 52, 3) := by decide +kernel
theorem dX9_goes_25 : decode cX9_goes 25 = .ok (.bipush 10, 2) := by decide +kernel
theorem dX9_goes_27 : decode cX9_goes 27 = .ok (.aload_n 0, 1) := by decide +kernel
theorem dX9_goes_28 : decode cX9_goes 28 = .ok (.getfield 180, 3) := by decide +kernel
theorem dX9_goes_31 : decode cX9_goes 31 = .ok (.imul, 1) := by decide +kernel
theorem dX9_goes_32 : decode cX9_goes 32 = .ok (.lconst 1, 1) := by decide +kernel
theorem dX9_goes_33 : decode cX9_goes 33 = .ok (.lastore, 1) := by decide +kernel
theorem dX9_goes_34 : decode cX9_goes 34 = .ok (.iconst 0, 1) := by decide +kernel
theorem dX9_goes_35 : decode cX9_goes 35 = .ok (.istore_n 2, 1) := by decide +kernel
theorem dX9_goes_36 : decode cX9_goes 36 = .ok (.iload_n 2, 1) := by decide +kernel
theorem dX9_goes_37 : decode cX9_goes 37 = .ok (.iload_n 1, 1) := by decide +kernel
theorem dX9_goes_38 : decode cX9_goes 38 = .ok (.if_icmp .ge 14, 3) := by decide +kernel
theorem dX9_goes_41 : decode cX9_goes 41 = .ok (.aload_n 0, 1) := by decide +kernel
theorem dX9_goes_42 : decode cX9_goes 42 = .ok (.iload_n 2, 1) := by decide +kernel
theorem dX9_goes_43 : decode cX9_goes 43 = .ok (.invokevirtual 215, 3) := by decide +kernel
theorem dX9_goes_46 : decode cX9_goes 46 = .ok (.iinc 2 1, 3) := by decide +kernel
theorem dX9_goes_49 : decode cX9_goes 49 = .ok (.goto (-13), 3) := by decide +kernel
theorem dX9_goes_52 : decode cX9_goes 52 = .ok (.return_, 1) := by decide +kernel
theorem dX9_whole_0 : decode cX9_whole 0 = .ok (.lconst 1, 1) := by decide +kernel
theorem dX9_whole_1 : decode cX9_whole 1 = .ok (.lstore_n 1, 1) := by decide +kernel
theorem dX9_whole_2 : decode cX9_whole 2 = .ok (.iconst 0, 1) := by decide +kernel
theorem dX9_whole_3 : decode cX9_whole 3 = .ok (.istore_n 3, 1) := by decide +kernel
theorem dX9_whole_4 : decode cX9_whole 4 = .ok (.iload_n 3, 1) := by decide +kernel
theorem dX9_whole_5 : decode cX9_whole 5 = .ok (.iload_n 0, 1) := by decide +kernel
theorem dX9_whole_6 : decode cX9_whole 6 = .ok (.if_icmp .ge 15, 3) := by decide +kernel
theorem dX9_whole_9 : decode cX9_whole 9 = .ok (.lload_n 1, 1) := by decide +kernel
theorem dX9_whole_10 : decode cX9_whole 10 = .ok (.ldc2_w 219, 3) := by decide +kernel
theorem dX9_whole_13 : decode cX9_whole 13 = .ok (.lmul, 1) := by decide +kernel
theorem dX9_whole_14 : decode cX9_whole 14 = .ok (.lstore_n 1, 1) := by decide +kernel
theorem dX9_whole_15 : decode cX9_whole 15 = .ok (.iinc 3 1, 3) := by decide +kernel
theorem dX9_whole_18 : decode cX9_whole 18 = .ok (.goto (-14), 3) := by decide +kernel
theorem dX9_whole_21 : decode cX9_whole 21 = .ok (.lload_n 1, 1) := by decide +kernel
theorem dX9_whole_22 : decode cX9_whole 22 = .ok (.lreturn, 1) := by decide +kernel
theorem dX9_partsOf_0 : decode cX9_partsOf 0 = .ok (.lconst 0, 1) := by decide +kernel
theorem dX9_partsOf_1 : decode cX9_partsOf 1 = .ok (.lstore_n 2, 1) := by decide +kernel
theorem dX9_partsOf_2 : decode cX9_partsOf 2 = .ok (.iconst 0, 1) := by decide +kernel
theorem dX9_partsOf_3 : decode cX9_partsOf 3 = .ok (.istore 4, 2) := by decide +kernel
theorem dX9_partsOf_5 : decode cX9_partsOf 5 = .ok (.iload 4, 2) := by decide +kernel
theorem dX9_partsOf_7 : decode cX9_partsOf 7 = .ok (.bipush 10, 2) := by decide +kernel
theorem dX9_partsOf_9 : decode cX9_partsOf 9 = .ok (.if_icmp .ge 24, 3) := by decide +kernel
theorem dX9_partsOf_12 : decode cX9_partsOf 12 = .ok (.lload_n 2, 1) := by decide +kernel
theorem dX9_partsOf_13 : decode cX9_partsOf 13 = .ok (.aload_n 0, 1) := by decide +kernel
theorem dX9_partsOf_14 : decode cX9_partsOf 14 = .ok (.getfield 52, 3) := by decide +kernel
theorem dX9_partsOf_17 : decode cX9_partsOf 17 = .ok (.bipush 10, 2) := by decide +kernel
theorem dX9_partsOf_19 : decode cX9_partsOf 19 = .ok (.iload_n 1, 1) := by decide +kernel
theorem dX9_partsOf_20 : decode cX9_partsOf 20 = .ok (.imul, 1) := by decide +kernel
theorem dX9_partsOf_21 : decode cX9_partsOf 21 = .ok (.iload 4, 2) := by decide +kernel
theorem dX9_partsOf_23 : decode cX9_partsOf 23 = .ok (.iadd, 1) := by decide +kernel
theorem dX9_partsOf_24 : decode cX9_partsOf 24 = .ok (.laload, 1) := by decide +kernel
theorem dX9_partsOf_25 : decode cX9_partsOf 25 = .ok (.ladd, 1) := by decide +kernel
theorem dX9_partsOf_26 : decode cX9_partsOf 26 = .ok (.lstore_n 2, 1) := by decide +kernel
theorem dX9_partsOf_27 : decode cX9_partsOf 27 = .ok (.iinc 4 1, 3) := by decide +kernel
theorem dX9_partsOf_30 : decode cX9_partsOf 30 = .ok (.goto (-25), 3) := by decide +kernel
theorem dX9_partsOf_33 : decode cX9_partsOf 33 = .ok (.lload_n 2, 1) := by decide +kernel
theorem dX9_partsOf_34 : decode cX9_partsOf 34 = .ok (.lreturn, 1) := by decide +kernel
theorem dX9_amountNow_0 : decode cX9_amountNow 0 = .ok (.aload_n 0, 1) := by decide +kernel
theorem dX9_amountNow_1 : decode cX9_amountNow 1 = .ok (.aload_n 0, 1) := by decide +kernel
theorem dX9_amountNow_2 : decode cX9_amountNow 2 = .ok (.getfield 129, 3) := by decide +kernel
theorem dX9_amountNow_5 : decode cX9_amountNow 5 = .ok (.invokevirtual 221, 3) := by decide +kernel
theorem dX9_amountNow_8 : decode cX9_amountNow 8 = .ok (.lconst 0, 1) := by decide +kernel
theorem dX9_amountNow_9 : decode cX9_amountNow 9 = .ok (.lstore_n 2, 1) := by decide +kernel
theorem dX9_amountNow_10 : decode cX9_amountNow 10 = .ok (.iconst 0, 1) := by decide +kernel
theorem dX9_amountNow_11 : decode cX9_amountNow 11 = .ok (.istore 4, 2) := by decide +kernel
theorem dX9_amountNow_13 : decode cX9_amountNow 13 = .ok (.iload 4, 2) := by decide +kernel
theorem dX9_amountNow_15 : decode cX9_amountNow 15 = .ok (.bipush 10, 2) := by decide +kernel
theorem dX9_amountNow_17 : decode cX9_amountNow 17 = .ok (.if_icmp .ge 33, 3) := by decide +kernel
theorem dX9_amountNow_20 : decode cX9_amountNow 20 = .ok (.lload_n 2, 1) := by decide +kernel
theorem dX9_amountNow_21 : decode cX9_amountNow 21 = .ok (.aload_n 0, 1) := by decide +kernel
theorem dX9_amountNow_22 : decode cX9_amountNow 22 = .ok (.getfield 52, 3) := by decide +kernel
theorem dX9_amountNow_25 : decode cX9_amountNow 25 = .ok (.bipush 10, 2) := by decide +kernel
theorem dX9_amountNow_27 : decode cX9_amountNow 27 = .ok (.iload_n 1, 1) := by decide +kernel
theorem dX9_amountNow_28 : decode cX9_amountNow 28 = .ok (.imul, 1) := by decide +kernel
theorem dX9_amountNow_29 : decode cX9_amountNow 29 = .ok (.iload 4, 2) := by decide +kernel
theorem dX9_amountNow_31 : decode cX9_amountNow 31 = .ok (.iadd, 1) := by decide +kernel
theorem dX9_amountNow_32 : decode cX9_amountNow 32 = .ok (.laload, 1) := by decide +kernel
theorem dX9_amountNow_33 : decode cX9_amountNow 33 = .ok (.ldc2_w 224, 3) := by decide +kernel
theorem dX9_amountNow_36 : decode cX9_amountNow 36 = .ok (.iload 4, 2) := by decide +kernel
theorem dX9_amountNow_38 : decode cX9_amountNow 38 = .ok (.iconst 2, 1) := by decide +kernel
theorem dX9_amountNow_39 : decode cX9_amountNow 39 = .ok (.idiv, 1) := by decide +kernel
theorem dX9_amountNow_40 : decode cX9_amountNow 40 = .ok (.lshr, 1) := by decide +kernel
theorem dX9_amountNow_41 : decode cX9_amountNow 41 = .ok (.lmul, 1) := by decide +kernel
theorem dX9_amountNow_42 : decode cX9_amountNow 42 = .ok (.ladd, 1) := by decide +kernel
theorem dX9_amountNow_43 : decode cX9_amountNow 43 = .ok (.lstore_n 2, 1) := by decide +kernel
theorem dX9_amountNow_44 : decode cX9_amountNow 44 = .ok (.iinc 4 1, 3) := by decide +kernel
theorem dX9_amountNow_47 : decode cX9_amountNow 47 = .ok (.goto (-34), 3) := by decide +kernel
theorem dX9_amountNow_50 : decode cX9_amountNow 50 = .ok (.lload_n 2, 1) := by decide +kernel
theorem dX9_amountNow_51 : decode cX9_amountNow 51 = .ok (.lreturn, 1) := by decide +kernel
theorem dX9_all_0 : decode cX9_all 0 = .ok (.ldc2_w 224, 3) := by decide +kernel
theorem dX9_all_3 : decode cX9_all 3 = .ok (.aload_n 0, 1) := by decide +kernel
theorem dX9_all_4 : decode cX9_all 4 = .ok (.getfield 129, 3) := by decide +kernel
theorem dX9_all_7 : decode cX9_all 7 = .ok (.invokestatic 226, 3) := by decide +kernel
theorem dX9_all_10 : decode cX9_all 10 = .ok (.lmul, 1) := by decide +kernel
theorem dX9_all_11 : decode cX9_all 11 = .ok (.lreturn, 1) := by decide +kernel
theorem dX9_costNow_0 : decode cX9_costNow 0 = .ok (.aload_n 0, 1) := by decide +kernel
theorem dX9_costNow_1 : decode cX9_costNow 1 = .ok (.getfield 43, 3) := by decide +kernel
theorem dX9_costNow_4 : decode cX9_costNow 4 = .ok (.iload_n 1, 1) := by decide +kernel
theorem dX9_costNow_5 : decode cX9_costNow 5 = .ok (.iaload, 1) := by decide +kernel
theorem dX9_costNow_6 : decode cX9_costNow 6 = .ok (.aload_n 0, 1) := by decide +kernel
theorem dX9_costNow_7 : decode cX9_costNow 7 = .ok (.getfield 129, 3) := by decide +kernel
theorem dX9_costNow_10 : decode cX9_costNow 10 = .ok (.if_icmp .ge 16, 3) := by decide +kernel
theorem dX9_costNow_13 : decode cX9_costNow 13 = .ok (.aload_n 0, 1) := by decide +kernel
theorem dX9_costNow_14 : decode cX9_costNow 14 = .ok (.getfield 25, 3) := by decide +kernel
theorem dX9_costNow_17 : decode cX9_costNow 17 = .ok (.iconst 4, 1) := by decide +kernel
theorem dX9_costNow_18 : decode cX9_costNow 18 = .ok (.iload_n 1, 1) := by decide +kernel
theorem dX9_costNow_19 : decode cX9_costNow 19 = .ok (.imul, 1) := by decide +kernel
theorem dX9_costNow_20 : decode cX9_costNow 20 = .ok (.iconst 2, 1) := by decide +kernel
theorem dX9_costNow_21 : decode cX9_costNow 21 = .ok (.iadd, 1) := by decide +kernel
theorem dX9_costNow_22 : decode cX9_costNow 22 = .ok (.iaload, 1) := by decide +kernel
theorem dX9_costNow_23 : decode cX9_costNow 23 = .ok (.goto 4, 3) := by decide +kernel
theorem dX9_costNow_26 : decode cX9_costNow 26 = .ok (.iconst 0, 1) := by decide +kernel
theorem dX9_costNow_27 : decode cX9_costNow 27 = .ok (.istore_n 2, 1) := by decide +kernel
theorem dX9_costNow_28 : decode cX9_costNow 28 = .ok (.iconst 0, 1) := by decide +kernel
theorem dX9_costNow_29 : decode cX9_costNow 29 = .ok (.istore_n 3, 1) := by decide +kernel
theorem dX9_costNow_30 : decode cX9_costNow 30 = .ok (.iload_n 3, 1) := by decide +kernel
theorem dX9_costNow_31 : decode cX9_costNow 31 = .ok (.aload_n 0, 1) := by decide +kernel
theorem dX9_costNow_32 : decode cX9_costNow 32 = .ok (.getfield 129, 3) := by decide +kernel
theorem dX9_costNow_35 : decode cX9_costNow 35 = .ok (.if_icmp .ge 50, 3) := by decide +kernel
theorem dX9_costNow_38 : decode cX9_costNow 38 = .ok (.iload_n 2, 1) := by decide +kernel
theorem dX9_costNow_39 : decode cX9_costNow 39 = .ok (.aload_n 0, 1) := by decide +kernel
theorem dX9_costNow_40 : decode cX9_costNow 40 = .ok (.getfield 40, 3) := by decide +kernel
theorem dX9_costNow_43 : decode cX9_costNow 43 = .ok (.iload_n 1, 1) := by decide +kernel
theorem dX9_costNow_44 : decode cX9_costNow 44 = .ok (.iaload, 1) := by decide +kernel
theorem dX9_costNow_45 : decode cX9_costNow 45 = .ok (.iload_n 3, 1) := by decide +kernel
theorem dX9_costNow_46 : decode cX9_costNow 46 = .ok (.ishr, 1) := by decide +kernel
theorem dX9_costNow_47 : decode cX9_costNow 47 = .ok (.iconst 1, 1) := by decide +kernel
theorem dX9_costNow_48 : decode cX9_costNow 48 = .ok (.iand, 1) := by decide +kernel
theorem dX9_costNow_49 : decode cX9_costNow 49 = .ok (.iconst 1, 1) := by decide +kernel
theorem dX9_costNow_50 : decode cX9_costNow 50 = .ok (.if_icmp .ne 26, 3) := by decide +kernel
theorem dX9_costNow_53 : decode cX9_costNow 53 = .ok (.aload_n 0, 1) := by decide +kernel
theorem dX9_costNow_54 : decode cX9_costNow 54 = .ok (.getfield 43, 3) := by decide +kernel
theorem dX9_costNow_57 : decode cX9_costNow 57 = .ok (.iload_n 1, 1) := by decide +kernel
theorem dX9_costNow_58 : decode cX9_costNow 58 = .ok (.iaload, 1) := by decide +kernel
theorem dX9_costNow_59 : decode cX9_costNow 59 = .ok (.iload_n 3, 1) := by decide +kernel
theorem dX9_costNow_60 : decode cX9_costNow 60 = .ok (.if_icmp .le 16, 3) := by decide +kernel
theorem dX9_costNow_63 : decode cX9_costNow 63 = .ok (.aload_n 0, 1) := by decide +kernel
theorem dX9_costNow_64 : decode cX9_costNow 64 = .ok (.getfield 25, 3) := by decide +kernel
theorem dX9_costNow_67 : decode cX9_costNow 67 = .ok (.iconst 4, 1) := by decide +kernel
theorem dX9_costNow_68 : decode cX9_costNow 68 = .ok (.iload_n 1, 1) := by decide +kernel
theorem dX9_costNow_69 : decode cX9_costNow 69 = .ok (.imul, 1) := by decide +kernel
theorem dX9_costNow_70 : decode cX9_costNow 70 = .ok (.iconst 1, 1) := by decide +kernel
theorem dX9_costNow_71 : decode cX9_costNow 71 = .ok (.iadd, 1) := by decide +kernel
theorem dX9_costNow_72 : decode cX9_costNow 72 = .ok (.iaload, 1) := by decide +kernel
theorem dX9_costNow_73 : decode cX9_costNow 73 = .ok (.goto 4, 3) := by decide +kernel
theorem dX9_costNow_76 : decode cX9_costNow 76 = .ok (.iconst 0, 1) := by decide +kernel
theorem dX9_costNow_77 : decode cX9_costNow 77 = .ok (.iadd, 1) := by decide +kernel
theorem dX9_costNow_78 : decode cX9_costNow 78 = .ok (.istore_n 2, 1) := by decide +kernel
theorem dX9_costNow_79 : decode cX9_costNow 79 = .ok (.iinc 3 1, 3) := by decide +kernel
theorem dX9_costNow_82 : decode cX9_costNow 82 = .ok (.goto (-52), 3) := by decide +kernel
theorem dX9_costNow_85 : decode cX9_costNow 85 = .ok (.aload_n 0, 1) := by decide +kernel
theorem dX9_costNow_86 : decode cX9_costNow 86 = .ok (.getfield 25, 3) := by decide +kernel
theorem dX9_costNow_89 : decode cX9_costNow 89 = .ok (.iconst 4, 1) := by decide +kernel
theorem dX9_costNow_90 : decode cX9_costNow 90 = .ok (.iload_n 1, 1) := by decide +kernel
theorem dX9_costNow_91 : decode cX9_costNow 91 = .ok (.imul, 1) := by decide +kernel
theorem dX9_costNow_92 : decode cX9_costNow 92 = .ok (.iconst 3, 1) := by decide +kernel
theorem dX9_costNow_93 : decode cX9_costNow 93 = .ok (.iadd, 1) := by decide +kernel
theorem dX9_costNow_94 : decode cX9_costNow 94 = .ok (.iaload, 1) := by decide +kernel
theorem dX9_costNow_95 : decode cX9_costNow 95 = .ok (.i2l, 1) := by decide +kernel
theorem dX9_costNow_96 : decode cX9_costNow 96 = .ok (.aload_n 0, 1) := by decide +kernel
theorem dX9_costNow_97 : decode cX9_costNow 97 = .ok (.iload_n 1, 1) := by decide +kernel
theorem dX9_costNow_98 : decode cX9_costNow 98 = .ok (.invokevirtual 230, 3) := by decide +kernel
theorem dX9_costNow_101 : decode cX9_costNow 101 = .ok (.lmul, 1) := by decide +kernel
theorem dX9_costNow_102 : decode cX9_costNow 102 = .ok (.iload_n 2, 1) := by decide +kernel
theorem dX9_costNow_103 : decode cX9_costNow 103 = .ok (.i2l, 1) := by decide +kernel
theorem dX9_costNow_104 : decode cX9_costNow 104 = .ok (.aload_n 0, 1) := by decide +kernel
theorem dX9_costNow_105 : decode cX9_costNow 105 = .ok (.invokevirtual 233, 3) := by decide +kernel
theorem dX9_costNow_108 : decode cX9_costNow 108 = .ok (.lmul, 1) := by decide +kernel
theorem dX9_costNow_109 : decode cX9_costNow 109 = .ok (.ladd, 1) := by decide +kernel
theorem dX9_costNow_110 : decode cX9_costNow 110 = .ok (.lreturn, 1) := by decide +kernel
theorem dX9_part_0 : decode cX9_part 0 = .ok (.lload_n 0, 1) := by decide +kernel
theorem dX9_part_1 : decode cX9_part 1 = .ok (.lconst 0, 1) := by decide +kernel
theorem dX9_part_2 : decode cX9_part 2 = .ok (.lcmp, 1) := by decide +kernel
theorem dX9_part_3 : decode cX9_part 3 = .ok (.ifCond .ge 8, 3) := by decide +kernel
theorem dX9_part_6 : decode cX9_part 6 = .ok (.lload_n 0, 1) := by decide +kernel
theorem dX9_part_7 : decode cX9_part 7 = .ok (.lneg, 1) := by decide +kernel
theorem dX9_part_8 : decode cX9_part 8 = .ok (.goto 4, 3) := by decide +kernel
theorem dX9_part_11 : decode cX9_part 11 = .ok (.lload_n 0, 1) := by decide +kernel
theorem dX9_part_12 : decode cX9_part 12 = .ok (.lstore 5, 2) := by decide +kernel
theorem dX9_part_14 : decode cX9_part 14 = .ok (.lload_n 2, 1) := by decide +kernel
theorem dX9_part_15 : decode cX9_part 15 = .ok (.lstore 7, 2) := by decide +kernel
theorem dX9_part_17 : decode cX9_part 17 = .ok (.lload 7, 2) := by decide +kernel
theorem dX9_part_19 : decode cX9_part 19 = .ok (.lconst 0, 1) := by decide +kernel
theorem dX9_part_20 : decode cX9_part 20 = .ok (.lcmp, 1) := by decide +kernel
theorem dX9_part_21 : decode cX9_part 21 = .ok (.ifCond .eq 21, 3) := by decide +kernel
theorem dX9_part_24 : decode cX9_part 24 = .ok (.lload 5, 2) := by decide +kernel
theorem dX9_part_26 : decode cX9_part 26 = .ok (.lload 7, 2) := by decide +kernel
theorem dX9_part_28 : decode cX9_part 28 = .ok (.lrem, 1) := by decide +kernel
theorem dX9_part_29 : decode cX9_part 29 = .ok (.lstore 9, 2) := by decide +kernel
theorem dX9_part_31 : decode cX9_part 31 = .ok (.lload 7, 2) := by decide +kernel
theorem dX9_part_33 : decode cX9_part 33 = .ok (.lstore 5, 2) := by decide +kernel
theorem dX9_part_35 : decode cX9_part 35 = .ok (.lload 9, 2) := by decide +kernel
theorem dX9_part_37 : decode cX9_part 37 = .ok (.lstore 7, 2) := by decide +kernel
theorem dX9_part_39 : decode cX9_part 39 = .ok (.goto (-22), 3) := by decide +kernel
theorem dX9_part_42 : decode cX9_part 42 = .ok (.iload 4, 2) := by decide +kernel
theorem dX9_part_44 : decode cX9_part 44 = .ok (.ifCond .ne 7, 3) := by decide +kernel
theorem dX9_part_47 : decode cX9_part 47 = .ok (.lload_n 0, 1) := by decide +kernel
theorem dX9_part_48 : decode cX9_part 48 = .ok (.goto 4, 3) := by decide +kernel
theorem dX9_part_51 : decode cX9_part 51 = .ok (.lload_n 2, 1) := by decide +kernel
theorem dX9_part_52 : decode cX9_part 52 = .ok (.lload 5, 2) := by decide +kernel
theorem dX9_part_54 : decode cX9_part 54 = .ok (.ldiv, 1) := by decide +kernel
theorem dX9_part_55 : decode cX9_part 55 = .ok (.lreturn, 1) := by decide +kernel
theorem dX9_owesOf_0 : decode cX9_owesOf 0 = .ok (.aload_n 0, 1) := by decide +kernel
theorem dX9_owesOf_1 : decode cX9_owesOf 1 = .ok (.invokevirtual 194, 3) := by decide +kernel
theorem dX9_owesOf_4 : decode cX9_owesOf 4 = .ok (.aload_n 0, 1) := by decide +kernel
theorem dX9_owesOf_5 : decode cX9_owesOf 5 = .ok (.iload_n 2, 1) := by decide +kernel
theorem dX9_owesOf_6 : decode cX9_owesOf 6 = .ok (.invokevirtual 221, 3) := by decide +kernel
theorem dX9_owesOf_9 : decode cX9_owesOf 9 = .ok (.aload_n 0, 1) := by decide +kernel
theorem dX9_owesOf_10 : decode cX9_owesOf 10 = .ok (.iload_n 1, 1) := by decide +kernel
theorem dX9_owesOf_11 : decode cX9_owesOf 11 = .ok (.invokevirtual 237, 3) := by decide +kernel
theorem dX9_owesOf_14 : decode cX9_owesOf 14 = .ok (.iload_n 2, 1) := by decide +kernel
theorem dX9_owesOf_15 : decode cX9_owesOf 15 = .ok (.invokestatic 226, 3) := by decide +kernel
theorem dX9_owesOf_18 : decode cX9_owesOf 18 = .ok (.iload_n 3, 1) := by decide +kernel
theorem dX9_owesOf_19 : decode cX9_owesOf 19 = .ok (.invokestatic 240, 3) := by decide +kernel
theorem dX9_owesOf_22 : decode cX9_owesOf 22 = .ok (.lreturn, 1) := by decide +kernel
theorem dX9_owes_0 : decode cX9_owes 0 = .ok (.aload_n 0, 1) := by decide +kernel
theorem dX9_owes_1 : decode cX9_owes 1 = .ok (.iload_n 1, 1) := by decide +kernel
theorem dX9_owes_2 : decode cX9_owes 2 = .ok (.invokevirtual 158, 3) := by decide +kernel
theorem dX9_owes_5 : decode cX9_owes 5 = .ok (.ifCond .eq 34, 3) := by decide +kernel
theorem dX9_owes_8 : decode cX9_owes 8 = .ok (.iload_n 2, 1) := by decide +kernel
theorem dX9_owes_9 : decode cX9_owes 9 = .ok (.i2l, 1) := by decide +kernel
theorem dX9_owes_10 : decode cX9_owes 10 = .ok (.lconst 0, 1) := by decide +kernel
theorem dX9_owes_11 : decode cX9_owes 11 = .ok (.aload_n 0, 1) := by decide +kernel
theorem dX9_owes_12 : decode cX9_owes 12 = .ok (.getfield 129, 3) := by decide +kernel
theorem dX9_owes_15 : decode cX9_owes 15 = .ok (.i2l, 1) := by decide +kernel
theorem dX9_owes_16 : decode cX9_owes 16 = .ok (.invokestatic 89, 3) := by decide +kernel
theorem dX9_owes_19 : decode cX9_owes 19 = .ok (.ifCond .eq 20, 3) := by decide +kernel
theorem dX9_owes_22 : decode cX9_owes 22 = .ok (.iload_n 3, 1) := by decide +kernel
theorem dX9_owes_23 : decode cX9_owes 23 = .ok (.invokestatic 244, 3) := by decide +kernel
theorem dX9_owes_26 : decode cX9_owes 26 = .ok (.ifCond .eq 13, 3) := by decide +kernel
theorem dX9_owes_29 : decode cX9_owes 29 = .ok (.aload_n 0, 1) := by decide +kernel
theorem dX9_owes_30 : decode cX9_owes 30 = .ok (.iload_n 1, 1) := by decide +kernel
theorem dX9_owes_31 : decode cX9_owes 31 = .ok (.iload_n 2, 1) := by decide +kernel
theorem dX9_owes_32 : decode cX9_owes 32 = .ok (.iload_n 3, 1) := by decide +kernel
theorem dX9_owes_33 : decode cX9_owes 33 = .ok (.invokevirtual 247, 3) := by decide +kernel
theorem dX9_owes_36 : decode cX9_owes 36 = .ok (.goto 8, 3) := by decide +kernel
theorem dX9_owes_39 : decode cX9_owes 39 = .ok (.bipush (-2), 2) := by decide +kernel
theorem dX9_owes_41 : decode cX9_owes 41 = .ok (.invokestatic 251, 3) := by decide +kernel
theorem dX9_owes_44 : decode cX9_owes 44 = .ok (.lreturn, 1) := by decide +kernel
theorem dX9_amountOf_0 : decode cX9_amountOf 0 = .ok (.aload_n 0, 1) := by decide +kernel
theorem dX9_amountOf_1 : decode cX9_amountOf 1 = .ok (.invokevirtual 194, 3) := by decide +kernel
theorem dX9_amountOf_4 : decode cX9_amountOf 4 = .ok (.aload_n 0, 1) := by decide +kernel
theorem dX9_amountOf_5 : decode cX9_amountOf 5 = .ok (.iload_n 1, 1) := by decide +kernel
theorem dX9_amountOf_6 : decode cX9_amountOf 6 = .ok (.invokevirtual 230, 3) := by decide +kernel
theorem dX9_amountOf_9 : decode cX9_amountOf 9 = .ok (.aload_n 0, 1) := by decide +kernel
theorem dX9_amountOf_10 : decode cX9_amountOf 10 = .ok (.invokevirtual 233, 3) := by decide +kernel
theorem dX9_amountOf_13 : decode cX9_amountOf 13 = .ok (.iload_n 2, 1) := by decide +kernel
theorem dX9_amountOf_14 : decode cX9_amountOf 14 = .ok (.invokestatic 240, 3) := by decide +kernel
theorem dX9_amountOf_17 : decode cX9_amountOf 17 = .ok (.lreturn, 1) := by decide +kernel
theorem dX9_amount_0 : decode cX9_amount 0 = .ok (.aload_n 0, 1) := by decide +kernel
theorem dX9_amount_1 : decode cX9_amount 1 = .ok (.iload_n 1, 1) := by decide +kernel
theorem dX9_amount_2 : decode cX9_amount 2 = .ok (.invokevirtual 158, 3) := by decide +kernel
theorem dX9_amount_5 : decode cX9_amount 5 = .ok (.ifCond .eq 19, 3) := by decide +kernel
theorem dX9_amount_8 : decode cX9_amount 8 = .ok (.iload_n 2, 1) := by decide +kernel
theorem dX9_amount_9 : decode cX9_amount 9 = .ok (.invokestatic 244, 3) := by decide +kernel
theorem dX9_amount_12 : decode cX9_amount 12 = .ok (.ifCond .eq 12, 3) := by decide +kernel
theorem dX9_amount_15 : decode cX9_amount 15 = .ok (.aload_n 0, 1) := by decide +kernel
theorem dX9_amount_16 : decode cX9_amount 16 = .ok (.iload_n 1, 1) := by decide +kernel
theorem dX9_amount_17 : decode cX9_amount 17 = .ok (.iload_n 2, 1) := by decide +kernel
theorem dX9_amount_18 : decode cX9_amount 18 = .ok (.invokevirtual 254, 3) := by decide +kernel
theorem dX9_amount_21 : decode cX9_amount 21 = .ok (.goto 8, 3) := by decide +kernel
theorem dX9_amount_24 : decode cX9_amount 24 = .ok (.bipush (-2), 2) := by decide +kernel
theorem dX9_amount_26 : decode cX9_amount 26 = .ok (.invokestatic 251, 3) := by decide +kernel
theorem dX9_amount_29 : decode cX9_amount 29 = .ok (.lreturn, 1) := by decide +kernel
theorem dX9_costOf_0 : decode cX9_costOf 0 = .ok (.aload_n 0, 1) := by decide +kernel
theorem dX9_costOf_1 : decode cX9_costOf 1 = .ok (.invokevirtual 194, 3) := by decide +kernel
theorem dX9_costOf_4 : decode cX9_costOf 4 = .ok (.aload_n 0, 1) := by decide +kernel
theorem dX9_costOf_5 : decode cX9_costOf 5 = .ok (.iload_n 1, 1) := by decide +kernel
theorem dX9_costOf_6 : decode cX9_costOf 6 = .ok (.invokevirtual 258, 3) := by decide +kernel
theorem dX9_costOf_9 : decode cX9_costOf 9 = .ok (.aload_n 0, 1) := by decide +kernel
theorem dX9_costOf_10 : decode cX9_costOf 10 = .ok (.invokevirtual 233, 3) := by decide +kernel
theorem dX9_costOf_13 : decode cX9_costOf 13 = .ok (.iload_n 2, 1) := by decide +kernel
theorem dX9_costOf_14 : decode cX9_costOf 14 = .ok (.invokestatic 240, 3) := by decide +kernel
theorem dX9_costOf_17 : decode cX9_costOf 17 = .ok (.lreturn, 1) := by decide +kernel
theorem dX9_cost_0 : decode cX9_cost 0 = .ok (.aload_n 0, 1) := by decide +kernel
theorem dX9_cost_1 : decode cX9_cost 1 = .ok (.iload_n 1, 1) := by decide +kernel
theorem dX9_cost_2 : decode cX9_cost 2 = .ok (.invokevirtual 158, 3) := by decide +kernel
theorem dX9_cost_5 : decode cX9_cost 5 = .ok (.ifCond .eq 19, 3) := by decide +kernel
theorem dX9_cost_8 : decode cX9_cost 8 = .ok (.iload_n 2, 1) := by decide +kernel
theorem dX9_cost_9 : decode cX9_cost 9 = .ok (.invokestatic 244, 3) := by decide +kernel
theorem dX9_cost_12 : decode cX9_cost 12 = .ok (.ifCond .eq 12, 3) := by decide +kernel
theorem dX9_cost_15 : decode cX9_cost 15 = .ok (.aload_n 0, 1) := by decide +kernel
theorem dX9_cost_16 : decode cX9_cost 16 = .ok (.iload_n 1, 1) := by decide +kernel
theorem dX9_cost_17 : decode cX9_cost 17 = .ok (.iload_n 2, 1) := by decide +kernel
theorem dX9_cost_18 : decode cX9_cost 18 = .ok (.invokevirtual 261, 3) := by decide +kernel
theorem dX9_cost_21 : decode cX9_cost 21 = .ok (.goto 8, 3) := by decide +kernel
theorem dX9_cost_24 : decode cX9_cost 24 = .ok (.bipush (-2), 2) := by decide +kernel
theorem dX9_cost_26 : decode cX9_cost 26 = .ok (.invokestatic 251, 3) := by decide +kernel
theorem dX9_cost_29 : decode cX9_cost 29 = .ok (.lreturn, 1) := by decide +kernel
theorem dX9_findBest_0 : decode cX9_findBest 0 = .ok (.aload_n 0, 1) := by decide +kernel
theorem dX9_findBest_1 : decode cX9_findBest 1 = .ok (.getfield 40, 3) := by decide +kernel
theorem dX9_findBest_4 : decode cX9_findBest 4 = .ok (.iload_n 1, 1) := by decide +kernel
theorem dX9_findBest_5 : decode cX9_findBest 5 = .ok (.iaload, 1) := by decide +kernel
theorem dX9_findBest_6 : decode cX9_findBest 6 = .ok (.istore_n 2, 1) := by decide +kernel
theorem dX9_findBest_7 : decode cX9_findBest 7 = .ok (.aload_n 0, 1) := by decide +kernel
theorem dX9_findBest_8 : decode cX9_findBest 8 = .ok (.getfield 43, 3) := by decide +kernel
theorem dX9_findBest_11 : decode cX9_findBest 11 = .ok (.iload_n 1, 1) := by decide +kernel
theorem dX9_findBest_12 : decode cX9_findBest 12 = .ok (.iaload, 1) := by decide +kernel
theorem dX9_findBest_13 : decode cX9_findBest 13 = .ok (.istore_n 3, 1) := by decide +kernel
theorem dX9_findBest_14 : decode cX9_findBest 14 = .ok (.aload_n 0, 1) := by decide +kernel
theorem dX9_findBest_15 : decode cX9_findBest 15 = .ok (.ldc2_w 264, 3) := by decide +kernel
theorem dX9_findBest_18 : decode cX9_findBest 18 = .ok (.putfield 266, 3) := by decide +kernel
theorem dX9_findBest_21 : decode cX9_findBest 21 = .ok (.aload_n 0, 1) := by decide +kernel
theorem dX9_findBest_22 : decode cX9_findBest 22 = .ok (.getfield 129, 3) := by decide +kernel
theorem dX9_findBest_25 : decode cX9_findBest 25 = .ok (.istore 4, 2) := by decide +kernel
theorem dX9_findBest_27 : decode cX9_findBest 27 = .ok (.iload 4, 2) := by decide +kernel
theorem dX9_findBest_29 : decode cX9_findBest 29 = .ok (.ifCond .lt 106, 3) := by decide +kernel
theorem dX9_findBest_32 : decode cX9_findBest 32 = .ok (.aload_n 0, 1) := by decide +kernel
theorem dX9_findBest_33 : decode cX9_findBest 33 = .ok (.getfield 43, 3) := by decide +kernel
theorem dX9_findBest_36 : decode cX9_findBest 36 = .ok (.iload_n 1, 1) := by decide +kernel
theorem dX9_findBest_37 : decode cX9_findBest 37 = .ok (.iload 4, 2) := by decide +kernel
theorem dX9_findBest_39 : decode cX9_findBest 39 = .ok (.aload_n 0, 1) := by decide +kernel
theorem dX9_findBest_40 : decode cX9_findBest 40 = .ok (.getfield 129, 3) := by decide +kernel
theorem dX9_findBest_43 : decode cX9_findBest 43 = .ok (.if_icmp .ne 7, 3) := by decide +kernel
theorem dX9_findBest_46 : decode cX9_findBest 46 = .ok (.iconst 4, 1) := by decide +kernel
theorem dX9_findBest_47 : decode cX9_findBest 47 = .ok (.goto 5, 3) := by decide +kernel
theorem dX9_findBest_50 : decode cX9_findBest 50 = .ok (.iload 4, 2) := by decide +kernel
theorem dX9_findBest_52 : decode cX9_findBest 52 = .ok (.iastore, 1) := by decide +kernel
theorem dX9_findBest_53 : decode cX9_findBest 53 = .ok (.iconst 0, 1) := by decide +kernel
theorem dX9_findBest_54 : decode cX9_findBest 54 = .ok (.istore 5, 2) := by decide +kernel
theorem dX9_findBest_56 : decode cX9_findBest 56 = .ok (.iload 5, 2) := by decide +kernel
theorem dX9_findBest_58 : decode cX9_findBest 58 = .ok (.iconst 1, 1) := by decide +kernel
theorem dX9_findBest_59 : decode cX9_findBest 59 = .ok (.aload_n 0, 1) := by decide +kernel
theorem dX9_findBest_60 : decode cX9_findBest 60 = .ok (.getfield 129, 3) := by decide +kernel
theorem dX9_findBest_63 : decode cX9_findBest 63 = .ok (.ishl, 1) := by decide +kernel
theorem dX9_findBest_64 : decode cX9_findBest 64 = .ok (.if_icmp .ge 65, 3) := by decide +kernel
theorem dX9_findBest_67 : decode cX9_findBest 67 = .ok (.aload_n 0, 1) := by decide +kernel
theorem dX9_findBest_68 : decode cX9_findBest 68 = .ok (.getfield 40, 3) := by decide +kernel
theorem dX9_findBest_71 : decode cX9_findBest 71 = .ok (.iload_n 1, 1) := by decide +kernel
theorem dX9_findBest_72 : decode cX9_findBest 72 = .ok (.iload 5, 2) := by decide +kernel
theorem dX9_findBest_74 : decode cX9_findBest 74 = .ok (.iastore, 1) := by decide +kernel
theorem dX9_findBest_75 : decode cX9_findBest 75 = .ok (.aload_n 0, 1) := by decide +kernel
theorem dX9_findBest_76 : decode cX9_findBest 76 = .ok (.iload_n 1, 1) := by decide +kernel
theorem dX9_findBest_77 : decode cX9_findBest 77 = .ok (.invokevirtual 258, 3) := by decide +kernel
theorem dX9_findBest_80 : decode cX9_findBest 80 = .ok (.lstore 6, 2) := by decide +kernel
theorem dX9_findBest_82 : decode cX9_findBest 82 = .ok (.aload_n 0, 1) := by decide +kernel
theorem dX9_findBest_83 : decode cX9_findBest 83 = .ok (.getfield 266, 3) := by decide +kernel
theorem dX9_findBest_86 : decode cX9_findBest 86 = .ok (.lconst 0, 1) := by decide +kernel
theorem dX9_findBest_87 : decode cX9_findBest 87 = .ok (.lcmp, 1) := by decide +kernel
theorem dX9_findBest_88 : decode cX9_findBest 88 = .ok (.ifCond .lt 13, 3) := by decide +kernel
theorem dX9_findBest_91 : decode cX9_findBest 91 = .ok (.lload 6, 2) := by decide +kernel
theorem dX9_findBest_93 : decode cX9_findBest 93 = .ok (.aload_n 0, 1) := by decide +kernel
theorem dX9_findBest_94 : decode cX9_findBest 94 = .ok (.getfield 266, 3) := by decide +kernel
theorem dX9_findBest_97 : decode cX9_findBest 97 = .ok (.lcmp, 1) := by decide +kernel
theorem dX9_findBest_98 : decode cX9_findBest 98 = .ok (.ifCond .ge 25, 3) := by decide +kernel
theorem dX9_findBest_101 : decode cX9_findBest 101 = .ok (.aload_n 0, 1) := by decide +kernel
theorem dX9_findBest_102 : decode cX9_findBest 102 = .ok (.lload 6, 2) := by decide +kernel
theorem dX9_findBest_104 : decode cX9_findBest 104 = .ok (.putfield 266, 3) := by decide +kernel
theorem dX9_findBest_107 : decode cX9_findBest 107 = .ok (.aload_n 0, 1) := by decide +kernel
theorem dX9_findBest_108 : decode cX9_findBest 108 = .ok (.iload 5, 2) := by decide +kernel
theorem dX9_findBest_110 : decode cX9_findBest 110 = .ok (.putfield 270, 3) := by decide +kernel
theorem dX9_findBest_113 : decode cX9_findBest 113 = .ok (.aload_n 0, 1) := by decide +kernel
theorem dX9_findBest_114 : decode cX9_findBest 114 = .ok (.aload_n 0, 1) := by decide +kernel
theorem dX9_findBest_115 : decode cX9_findBest 115 = .ok (.getfield 43, 3) := by decide +kernel
theorem dX9_findBest_118 : decode cX9_findBest 118 = .ok (.iload_n 1, 1) := by decide +kernel
theorem dX9_findBest_119 : decode cX9_findBest 119 = .ok (.iaload, 1) := by decide +kernel
theorem dX9_findBest_120 : decode cX9_findBest 120 = .ok (.putfield 273, 3) := by decide +kernel
theorem dX9_findBest_123 : decode cX9_findBest 123 = .ok (.iinc 5 1, 3) := by decide +kernel
theorem dX9_findBest_126 : decode cX9_findBest 126 = .ok (.goto (-70), 3) := by decide +kernel
theorem dX9_findBest_129 : decode cX9_findBest 129 = .ok (.iinc 4 (-1), 3) := by decide +kernel
theorem dX9_findBest_132 : decode cX9_findBest 132 = .ok (.goto (-105), 3) := by decide +kernel
theorem dX9_findBest_135 : decode cX9_findBest 135 = .ok (.aload_n 0, 1) := by decide +kernel
theorem dX9_findBest_136 : decode cX9_findBest 136 = .ok (.getfield 40, 3) := by decide +kernel
theorem dX9_findBest_139 : decode cX9_findBest 139 = .ok (.iload_n 1, 1) := by decide +kernel
theorem dX9_findBest_140 : decode cX9_findBest 140 = .ok (.iload_n 2, 1) := by decide +kernel
theorem dX9_findBest_141 : decode cX9_findBest 141 = .ok (.iastore, 1) := by decide +kernel
theorem dX9_findBest_142 : decode cX9_findBest 142 = .ok (.aload_n 0, 1) := by decide +kernel
theorem dX9_findBest_143 : decode cX9_findBest 143 = .ok (.getfield 43, 3) := by decide +kernel
theorem dX9_findBest_146 : decode cX9_findBest 146 = .ok (.iload_n 1, 1) := by decide +kernel
theorem dX9_findBest_147 : decode cX9_findBest 147 = .ok (.iload_n 3, 1) := by decide +kernel
theorem dX9_findBest_148 : decode cX9_findBest 148 = .ok (.iastore, 1) := by decide +kernel
theorem dX9_findBest_149 : decode cX9_findBest 149 = .ok (.return_, 1) := by decide +kernel
theorem dX9_bestOf_0 : decode cX9_bestOf 0 = .ok (.aload_n 0, 1) := by decide +kernel
theorem dX9_bestOf_1 : decode cX9_bestOf 1 = .ok (.invokevirtual 194, 3) := by decide +kernel
theorem dX9_bestOf_4 : decode cX9_bestOf 4 = .ok (.aload_n 0, 1) := by decide +kernel
theorem dX9_bestOf_5 : decode cX9_bestOf 5 = .ok (.iload_n 1, 1) := by decide +kernel
theorem dX9_bestOf_6 : decode cX9_bestOf 6 = .ok (.invokevirtual 276, 3) := by decide +kernel
theorem dX9_bestOf_9 : decode cX9_bestOf 9 = .ok (.iload_n 2, 1) := by decide +kernel
theorem dX9_bestOf_10 : decode cX9_bestOf 10 = .ok (.iconst 2, 1) := by decide +kernel
theorem dX9_bestOf_11 : decode cX9_bestOf 11 = .ok (.if_icmp .ne 11, 3) := by decide +kernel
theorem dX9_bestOf_14 : decode cX9_bestOf 14 = .ok (.aload_n 0, 1) := by decide +kernel
theorem dX9_bestOf_15 : decode cX9_bestOf 15 = .ok (.getfield 270, 3) := by decide +kernel
theorem dX9_bestOf_18 : decode cX9_bestOf 18 = .ok (.i2l, 1) := by decide +kernel
theorem dX9_bestOf_19 : decode cX9_bestOf 19 = .ok (.goto 28, 3) := by decide +kernel
theorem dX9_bestOf_22 : decode cX9_bestOf 22 = .ok (.iload_n 2, 1) := by decide +kernel
theorem dX9_bestOf_23 : decode cX9_bestOf 23 = .ok (.iconst 3, 1) := by decide +kernel
theorem dX9_bestOf_24 : decode cX9_bestOf 24 = .ok (.if_icmp .ne 11, 3) := by decide +kernel
theorem dX9_bestOf_27 : decode cX9_bestOf 27 = .ok (.aload_n 0, 1) := by decide +kernel
theorem dX9_bestOf_28 : decode cX9_bestOf 28 = .ok (.getfield 273, 3) := by decide +kernel
theorem dX9_bestOf_31 : decode cX9_bestOf 31 = .ok (.i2l, 1) := by decide +kernel
theorem dX9_bestOf_32 : decode cX9_bestOf 32 = .ok (.goto 15, 3) := by decide +kernel
theorem dX9_bestOf_35 : decode cX9_bestOf 35 = .ok (.aload_n 0, 1) := by decide +kernel
theorem dX9_bestOf_36 : decode cX9_bestOf 36 = .ok (.getfield 266, 3) := by decide +kernel
theorem dX9_bestOf_39 : decode cX9_bestOf 39 = .ok (.aload_n 0, 1) := by decide +kernel
theorem dX9_bestOf_40 : decode cX9_bestOf 40 = .ok (.invokevirtual 233, 3) := by decide +kernel
theorem dX9_bestOf_43 : decode cX9_bestOf 43 = .ok (.iload_n 2, 1) := by decide +kernel
theorem dX9_bestOf_44 : decode cX9_bestOf 44 = .ok (.invokestatic 240, 3) := by decide +kernel
theorem dX9_bestOf_47 : decode cX9_bestOf 47 = .ok (.lreturn, 1) := by decide +kernel
theorem dX9_best_0 : decode cX9_best 0 = .ok (.aload_n 0, 1) := by decide +kernel
theorem dX9_best_1 : decode cX9_best 1 = .ok (.iload_n 1, 1) := by decide +kernel
theorem dX9_best_2 : decode cX9_best 2 = .ok (.invokevirtual 158, 3) := by decide +kernel
theorem dX9_best_5 : decode cX9_best 5 = .ok (.ifCond .eq 24, 3) := by decide +kernel
theorem dX9_best_8 : decode cX9_best 8 = .ok (.iload_n 2, 1) := by decide +kernel
theorem dX9_best_9 : decode cX9_best 9 = .ok (.i2l, 1) := by decide +kernel
theorem dX9_best_10 : decode cX9_best 10 = .ok (.lconst 0, 1) := by decide +kernel
theorem dX9_best_11 : decode cX9_best 11 = .ok (.ldc2_w 97, 3) := by decide +kernel
theorem dX9_best_14 : decode cX9_best 14 = .ok (.invokestatic 89, 3) := by decide +kernel
theorem dX9_best_17 : decode cX9_best 17 = .ok (.ifCond .eq 12, 3) := by decide +kernel
theorem dX9_best_20 : decode cX9_best 20 = .ok (.aload_n 0, 1) := by decide +kernel
theorem dX9_best_21 : decode cX9_best 21 = .ok (.iload_n 1, 1) := by decide +kernel
theorem dX9_best_22 : decode cX9_best 22 = .ok (.iload_n 2, 1) := by decide +kernel
theorem dX9_best_23 : decode cX9_best 23 = .ok (.invokevirtual 279, 3) := by decide +kernel
theorem dX9_best_26 : decode cX9_best 26 = .ok (.goto 8, 3) := by decide +kernel
theorem dX9_best_29 : decode cX9_best 29 = .ok (.bipush (-2), 2) := by decide +kernel
theorem dX9_best_31 : decode cX9_best 31 = .ok (.invokestatic 251, 3) := by decide +kernel
theorem dX9_best_34 : decode cX9_best 34 = .ok (.lreturn, 1) := by decide +kernel
theorem dX9_roundGoes_0 : decode cX9_roundGoes 0 = .ok (.iconst 0, 1) := by decide +kernel
theorem dX9_roundGoes_1 : decode cX9_roundGoes 1 = .ok (.istore_n 1, 1) := by decide +kernel
theorem dX9_roundGoes_2 : decode cX9_roundGoes 2 = .ok (.iconst 0, 1) := by decide +kernel
theorem dX9_roundGoes_3 : decode cX9_roundGoes 3 = .ok (.istore_n 2, 1) := by decide +kernel
theorem dX9_roundGoes_4 : decode cX9_roundGoes 4 = .ok (.iload_n 2, 1) := by decide +kernel
theorem dX9_roundGoes_5 : decode cX9_roundGoes 5 = .ok (.aload_n 0, 1) := by decide +kernel
theorem dX9_roundGoes_6 : decode cX9_roundGoes 6 = .ok (.getfield 126, 3) := by decide +kernel
theorem dX9_roundGoes_9 : decode cX9_roundGoes 9 = .ok (.if_icmp .ge 49, 3) := by decide +kernel
theorem dX9_roundGoes_12 : decode cX9_roundGoes 12 = .ok (.aload_n 0, 1) := by decide +kernel
theorem dX9_roundGoes_13 : decode cX9_roundGoes 13 = .ok (.iload_n 2, 1) := by decide +kernel
theorem dX9_roundGoes_14 : decode cX9_roundGoes 14 = .ok (.invokevirtual 276, 3) := by decide +kernel
theorem dX9_roundGoes_17 : decode cX9_roundGoes 17 = .ok (.aload_n 0, 1) := by decide +kernel
theorem dX9_roundGoes_18 : decode cX9_roundGoes 18 = .ok (.getfield 266, 3) := by decide +kernel
theorem dX9_roundGoes_21 : decode cX9_roundGoes 21 = .ok (.aload_n 0, 1) := by decide +kernel
theorem dX9_roundGoes_22 : decode cX9_roundGoes 22 = .ok (.iload_n 2, 1) := by decide +kernel
theorem dX9_roundGoes_23 : decode cX9_roundGoes 23 = .ok (.invokevirtual 258, 3) := by decide +kernel
theorem dX9_roundGoes_26 : decode cX9_roundGoes 26 = .ok (.lcmp, 1) := by decide +kernel
theorem dX9_roundGoes_27 : decode cX9_roundGoes 27 = .ok (.ifCond .ge 25, 3) := by decide +kernel
theorem dX9_roundGoes_30 : decode cX9_roundGoes 30 = .ok (.aload_n 0, 1) := by decide +kernel
theorem dX9_roundGoes_31 : decode cX9_roundGoes 31 = .ok (.getfield 40, 3) := by decide +kernel
theorem dX9_roundGoes_34 : decode cX9_roundGoes 34 = .ok (.iload_n 2, 1) := by decide +kernel
theorem dX9_roundGoes_35 : decode cX9_roundGoes 35 = .ok (.aload_n 0, 1) := by decide +kernel
theorem dX9_roundGoes_36 : decode cX9_roundGoes 36 = .ok (.getfield 270, 3) := by decide +kernel
theorem dX9_roundGoes_39 : decode cX9_roundGoes 39 = .ok (.iastore, 1) := by decide +kernel
theorem dX9_roundGoes_40 : decode cX9_roundGoes 40 = .ok (.aload_n 0, 1) := by decide +kernel
theorem dX9_roundGoes_41 : decode cX9_roundGoes 41 = .ok (.getfield 43, 3) := by decide +kernel
theorem dX9_roundGoes_44 : decode cX9_roundGoes 44 = .ok (.iload_n 2, 1) := by decide +kernel
theorem dX9_roundGoes_45 : decode cX9_roundGoes 45 = .ok (.aload_n 0, 1) := by decide +kernel
theorem dX9_roundGoes_46 : decode cX9_roundGoes 46 = .ok (.getfield 273, 3) := by decide +kernel
theorem dX9_roundGoes_49 : decode cX9_roundGoes 49 = .ok (.iastore, 1) := by decide +kernel
theorem dX9_roundGoes_50 : decode cX9_roundGoes 50 = .ok (.iconst 1, 1) := by decide +kernel
theorem dX9_roundGoes_51 : decode cX9_roundGoes 51 = .ok (.istore_n 1, 1) := by decide +kernel
theorem dX9_roundGoes_52 : decode cX9_roundGoes 52 = .ok (.iinc 2 1, 3) := by decide +kernel
theorem dX9_roundGoes_55 : decode cX9_roundGoes 55 = .ok (.goto (-51), 3) := by decide +kernel
theorem dX9_roundGoes_58 : decode cX9_roundGoes 58 = .ok (.iload_n 1, 1) := by decide +kernel
theorem dX9_roundGoes_59 : decode cX9_roundGoes 59 = .ok (.ireturn, 1) := by decide +kernel
theorem dX9_rests_0 : decode cX9_rests 0 = .ok (.aload_n 0, 1) := by decide +kernel
theorem dX9_rests_1 : decode cX9_rests 1 = .ok (.invokevirtual 194, 3) := by decide +kernel
theorem dX9_rests_4 : decode cX9_rests 4 = .ok (.iconst 0, 1) := by decide +kernel
theorem dX9_rests_5 : decode cX9_rests 5 = .ok (.istore_n 1, 1) := by decide +kernel
theorem dX9_rests_6 : decode cX9_rests 6 = .ok (.iconst 1, 1) := by decide +kernel
theorem dX9_rests_7 : decode cX9_rests 7 = .ok (.istore_n 2, 1) := by decide +kernel
theorem dX9_rests_8 : decode cX9_rests 8 = .ok (.iload_n 2, 1) := by decide +kernel
theorem dX9_rests_9 : decode cX9_rests 9 = .ok (.ifCond .eq 20, 3) := by decide +kernel
theorem dX9_rests_12 : decode cX9_rests 12 = .ok (.iload_n 1, 1) := by decide +kernel
theorem dX9_rests_13 : decode cX9_rests 13 = .ok (.bipush 20, 2) := by decide +kernel
theorem dX9_rests_15 : decode cX9_rests 15 = .ok (.if_icmp .ge 14, 3) := by decide +kernel
theorem dX9_rests_18 : decode cX9_rests 18 = .ok (.aload_n 0, 1) := by decide +kernel
theorem dX9_rests_19 : decode cX9_rests 19 = .ok (.invokevirtual 282, 3) := by decide +kernel
theorem dX9_rests_22 : decode cX9_rests 22 = .ok (.istore_n 2, 1) := by decide +kernel
theorem dX9_rests_23 : decode cX9_rests 23 = .ok (.iinc 1 1, 3) := by decide +kernel
theorem dX9_rests_26 : decode cX9_rests 26 = .ok (.goto (-18), 3) := by decide +kernel
theorem dX9_rests_29 : decode cX9_rests 29 = .ok (.iload_n 2, 1) := by decide +kernel
theorem dX9_rests_30 : decode cX9_rests 30 = .ok (.ifCond .eq 7, 3) := by decide +kernel
theorem dX9_rests_33 : decode cX9_rests 33 = .ok (.iconst (-1), 1) := by decide +kernel
theorem dX9_rests_34 : decode cX9_rests 34 = .ok (.goto 4, 3) := by decide +kernel
theorem dX9_rests_37 : decode cX9_rests 37 = .ok (.iload_n 1, 1) := by decide +kernel
theorem dX9_rests_38 : decode cX9_rests 38 = .ok (.ireturn, 1) := by decide +kernel
theorem dX9_restOf_0 : decode cX9_restOf 0 = .ok (.aload_n 0, 1) := by decide +kernel
theorem dX9_restOf_1 : decode cX9_restOf 1 = .ok (.invokevirtual 285, 3) := by decide +kernel
theorem dX9_restOf_4 : decode cX9_restOf 4 = .ok (.istore_n 3, 1) := by decide +kernel
theorem dX9_restOf_5 : decode cX9_restOf 5 = .ok (.iload_n 1, 1) := by decide +kernel
theorem dX9_restOf_6 : decode cX9_restOf 6 = .ok (.iconst (-1), 1) := by decide +kernel
theorem dX9_restOf_7 : decode cX9_restOf 7 = .ok (.if_icmp .ne 7, 3) := by decide +kernel
theorem dX9_restOf_10 : decode cX9_restOf 10 = .ok (.iload_n 3, 1) := by decide +kernel
theorem dX9_restOf_11 : decode cX9_restOf 11 = .ok (.goto 22, 3) := by decide +kernel
theorem dX9_restOf_14 : decode cX9_restOf 14 = .ok (.iload_n 2, 1) := by decide +kernel
theorem dX9_restOf_15 : decode cX9_restOf 15 = .ok (.ifCond .ne 12, 3) := by decide +kernel
theorem dX9_restOf_18 : decode cX9_restOf 18 = .ok (.aload_n 0, 1) := by decide +kernel
theorem dX9_restOf_19 : decode cX9_restOf 19 = .ok (.getfield 40, 3) := by decide +kernel
theorem dX9_restOf_22 : decode cX9_restOf 22 = .ok (.iload_n 1, 1) := by decide +kernel
theorem dX9_restOf_23 : decode cX9_restOf 23 = .ok (.iaload, 1) := by decide +kernel
theorem dX9_restOf_24 : decode cX9_restOf 24 = .ok (.goto 9, 3) := by decide +kernel
theorem dX9_restOf_27 : decode cX9_restOf 27 = .ok (.aload_n 0, 1) := by decide +kernel
theorem dX9_restOf_28 : decode cX9_restOf 28 = .ok (.getfield 43, 3) := by decide +kernel
theorem dX9_restOf_31 : decode cX9_restOf 31 = .ok (.iload_n 1, 1) := by decide +kernel
theorem dX9_restOf_32 : decode cX9_restOf 32 = .ok (.iaload, 1) := by decide +kernel
theorem dX9_restOf_33 : decode cX9_restOf 33 = .ok (.ireturn, 1) := by decide +kernel
theorem dX9_rest_0 : decode cX9_rest 0 = .ok (.iload_n 1, 1) := by decide +kernel
theorem dX9_rest_1 : decode cX9_rest 1 = .ok (.iconst (-1), 1) := by decide +kernel
theorem dX9_rest_2 : decode cX9_rest 2 = .ok (.if_icmp .ne 15, 3) := by decide +kernel
theorem dX9_rest_5 : decode cX9_rest 5 = .ok (.iload_n 2, 1) := by decide +kernel
theorem dX9_rest_6 : decode cX9_rest 6 = .ok (.ifCond .ne 7, 3) := by decide +kernel
theorem dX9_rest_9 : decode cX9_rest 9 = .ok (.iconst 1, 1) := by decide +kernel
theorem dX9_rest_10 : decode cX9_rest 10 = .ok (.goto 27, 3) := by decide +kernel
theorem dX9_rest_13 : decode cX9_rest 13 = .ok (.iconst 0, 1) := by decide +kernel
theorem dX9_rest_14 : decode cX9_rest 14 = .ok (.goto 23, 3) := by decide +kernel
theorem dX9_rest_17 : decode cX9_rest 17 = .ok (.aload_n 0, 1) := by decide +kernel
theorem dX9_rest_18 : decode cX9_rest 18 = .ok (.iload_n 1, 1) := by decide +kernel
theorem dX9_rest_19 : decode cX9_rest 19 = .ok (.invokevirtual 158, 3) := by decide +kernel
theorem dX9_rest_22 : decode cX9_rest 22 = .ok (.ifCond .eq 14, 3) := by decide +kernel
theorem dX9_rest_25 : decode cX9_rest 25 = .ok (.iload_n 2, 1) := by decide +kernel
theorem dX9_rest_26 : decode cX9_rest 26 = .ok (.invokestatic 244, 3) := by decide +kernel
theorem dX9_rest_29 : decode cX9_rest 29 = .ok (.ifCond .eq 7, 3) := by decide +kernel
theorem dX9_rest_32 : decode cX9_rest 32 = .ok (.iconst 1, 1) := by decide +kernel
theorem dX9_rest_33 : decode cX9_rest 33 = .ok (.goto 4, 3) := by decide +kernel
theorem dX9_rest_36 : decode cX9_rest 36 = .ok (.iconst 0, 1) := by decide +kernel
theorem dX9_rest_37 : decode cX9_rest 37 = .ok (.istore_n 3, 1) := by decide +kernel
theorem dX9_rest_38 : decode cX9_rest 38 = .ok (.iload_n 3, 1) := by decide +kernel
theorem dX9_rest_39 : decode cX9_rest 39 = .ok (.ifCond .eq 12, 3) := by decide +kernel
theorem dX9_rest_42 : decode cX9_rest 42 = .ok (.aload_n 0, 1) := by decide +kernel
theorem dX9_rest_43 : decode cX9_rest 43 = .ok (.iload_n 1, 1) := by decide +kernel
theorem dX9_rest_44 : decode cX9_rest 44 = .ok (.iload_n 2, 1) := by decide +kernel
theorem dX9_rest_45 : decode cX9_rest 45 = .ok (.invokevirtual 288, 3) := by decide +kernel
theorem dX9_rest_48 : decode cX9_rest 48 = .ok (.goto 5, 3) := by decide +kernel
theorem dX9_rest_51 : decode cX9_rest 51 = .ok (.bipush (-2), 2) := by decide +kernel
theorem dX9_rest_53 : decode cX9_rest 53 = .ok (.ireturn, 1) := by decide +kernel
theorem dX9_power_0 : decode cX9_power 0 = .ok (.iconst 1, 1) := by decide +kernel
theorem dX9_power_1 : decode cX9_power 1 = .ok (.istore_n 2, 1) := by decide +kernel
theorem dX9_power_2 : decode cX9_power 2 = .ok (.iconst 0, 1) := by decide +kernel
theorem dX9_power_3 : decode cX9_power 3 = .ok (.istore_n 3, 1) := by decide +kernel
theorem dX9_power_4 : decode cX9_power 4 = .ok (.iload_n 3, 1) := by decide +kernel
theorem dX9_power_5 : decode cX9_power 5 = .ok (.iload_n 1, 1) := by decide +kernel
theorem dX9_power_6 : decode cX9_power 6 = .ok (.if_icmp .ge 13, 3) := by decide +kernel
theorem dX9_power_9 : decode cX9_power 9 = .ok (.iload_n 2, 1) := by decide +kernel
theorem dX9_power_10 : decode cX9_power 10 = .ok (.iload_n 0, 1) := by decide +kernel
theorem dX9_power_11 : decode cX9_power 11 = .ok (.imul, 1) := by decide +kernel
theorem dX9_power_12 : decode cX9_power 12 = .ok (.istore_n 2, 1) := by decide +kernel
theorem dX9_power_13 : decode cX9_power 13 = .ok (.iinc 3 1, 3) := by decide +kernel
theorem dX9_power_16 : decode cX9_power 16 = .ok (.goto (-12), 3) := by decide +kernel
theorem dX9_power_19 : decode cX9_power 19 = .ok (.iload_n 2, 1) := by decide +kernel
theorem dX9_power_20 : decode cX9_power 20 = .ok (.ireturn, 1) := by decide +kernel
theorem dX9_findOrder_0 : decode cX9_findOrder 0 = .ok (.aload_n 0, 1) := by decide +kernel
theorem dX9_findOrder_1 : decode cX9_findOrder 1 = .ok (.invokevirtual 194, 3) := by decide +kernel
theorem dX9_findOrder_4 : decode cX9_findOrder 4 = .ok (.ldc2_w 264, 3) := by decide +kernel
theorem dX9_findOrder_7 : decode cX9_findOrder 7 = .ok (.lstore_n 2, 1) := by decide +kernel
theorem dX9_findOrder_8 : decode cX9_findOrder 8 = .ok (.iconst 0, 1) := by decide +kernel
theorem dX9_findOrder_9 : decode cX9_findOrder 9 = .ok (.istore 4, 2) := by decide +kernel
theorem dX9_findOrder_11 : decode cX9_findOrder 11 = .ok (.iload 4, 2) := by decide +kernel
theorem dX9_findOrder_13 : decode cX9_findOrder 13 = .ok (.iconst 4, 1) := by decide +kernel
theorem dX9_findOrder_14 : decode cX9_findOrder 14 = .ok (.aload_n 0, 1) := by decide +kernel
theorem dX9_findOrder_15 : decode cX9_findOrder 15 = .ok (.getfield 129, 3) := by decide +kernel
theorem dX9_findOrder_18 : decode cX9_findOrder 18 = .ok (.invokestatic 291, 3) := by decide +kernel
theorem dX9_findOrder_21 : decode cX9_findOrder 21 = .ok (.if_icmp .ge 174, 3) := by decide +kernel
theorem dX9_findOrder_24 : decode cX9_findOrder 24 = .ok (.iconst 0, 1) := by decide +kernel
theorem dX9_findOrder_25 : decode cX9_findOrder 25 = .ok (.istore 5, 2) := by decide +kernel
theorem dX9_findOrder_27 : decode cX9_findOrder 27 = .ok (.iconst 0, 1) := by decide +kernel
theorem dX9_findOrder_28 : decode cX9_findOrder 28 = .ok (.istore 6, 2) := by decide +kernel
theorem dX9_findOrder_30 : decode cX9_findOrder 30 = .ok (.iload 6, 2) := by decide +kernel
theorem dX9_findOrder_32 : decode cX9_findOrder 32 = .ok (.aload_n 0, 1) := by decide +kernel
theorem dX9_findOrder_33 : decode cX9_findOrder 33 = .ok (.getfield 129, 3) := by decide +kernel
theorem dX9_findOrder_36 : decode cX9_findOrder 36 = .ok (.if_icmp .ge 48, 3) := by decide +kernel
theorem dX9_findOrder_39 : decode cX9_findOrder 39 = .ok (.aload_n 0, 1) := by decide +kernel
theorem dX9_findOrder_40 : decode cX9_findOrder 40 = .ok (.getfield 59, 3) := by decide +kernel
theorem dX9_findOrder_43 : decode cX9_findOrder 43 = .ok (.iload 6, 2) := by decide +kernel
theorem dX9_findOrder_45 : decode cX9_findOrder 45 = .ok (.iload 4, 2) := by decide +kernel
theorem dX9_findOrder_47 : decode cX9_findOrder 47 = .ok (.iconst 4, 1) := by decide +kernel
theorem dX9_findOrder_48 : decode cX9_findOrder 48 = .ok (.aload_n 0, 1) := by decide +kernel
theorem dX9_findOrder_49 : decode cX9_findOrder 49 = .ok (.getfield 129, 3) := by decide +kernel
theorem dX9_findOrder_52 : decode cX9_findOrder 52 = .ok (.iconst 1, 1) := by decide +kernel
theorem dX9_findOrder_53 : decode cX9_findOrder 53 = .ok (.isub, 1) := by decide +kernel
theorem dX9_findOrder_54 : decode cX9_findOrder 54 = .ok (.iload 6, 2) := by decide +kernel
theorem dX9_findOrder_56 : decode cX9_findOrder 56 = .ok (.isub, 1) := by decide +kernel
theorem dX9_findOrder_57 : decode cX9_findOrder 57 = .ok (.invokestatic 291, 3) := by decide +kernel
theorem dX9_findOrder_60 : decode cX9_findOrder 60 = .ok (.idiv, 1) := by decide +kernel
theorem dX9_findOrder_61 : decode cX9_findOrder 61 = .ok (.iconst 4, 1) := by decide +kernel
theorem dX9_findOrder_62 : decode cX9_findOrder 62 = .ok (.irem, 1) := by decide +kernel
theorem dX9_findOrder_63 : decode cX9_findOrder 63 = .ok (.iastore, 1) := by decide +kernel
theorem dX9_findOrder_64 : decode cX9_findOrder 64 = .ok (.iload 5, 2) := by decide +kernel
theorem dX9_findOrder_66 : decode cX9_findOrder 66 = .ok (.iconst 1, 1) := by decide +kernel
theorem dX9_findOrder_67 : decode cX9_findOrder 67 = .ok (.aload_n 0, 1) := by decide +kernel
theorem dX9_findOrder_68 : decode cX9_findOrder 68 = .ok (.getfield 59, 3) := by decide +kernel
theorem dX9_findOrder_71 : decode cX9_findOrder 71 = .ok (.iload 6, 2) := by decide +kernel
theorem dX9_findOrder_73 : decode cX9_findOrder 73 = .ok (.iaload, 1) := by decide +kernel
theorem dX9_findOrder_74 : decode cX9_findOrder 74 = .ok (.ishl, 1) := by decide +kernel
theorem dX9_findOrder_75 : decode cX9_findOrder 75 = .ok (.ior, 1) := by decide +kernel
theorem dX9_findOrder_76 : decode cX9_findOrder 76 = .ok (.istore 5, 2) := by decide +kernel
theorem dX9_findOrder_78 : decode cX9_findOrder 78 = .ok (.iinc 6 1, 3) := by decide +kernel
theorem dX9_findOrder_81 : decode cX9_findOrder 81 = .ok (.goto (-51), 3) := by decide +kernel
theorem dX9_findOrder_84 : decode cX9_findOrder 84 = .ok (.iload 5, 2) := by decide +kernel
theorem dX9_findOrder_86 : decode cX9_findOrder 86 = .ok (.iconst 1, 1) := by decide +kernel
theorem dX9_findOrder_87 : decode cX9_findOrder 87 = .ok (.aload_n 0, 1) := by decide +kernel
theorem dX9_findOrder_88 : decode cX9_findOrder 88 = .ok (.getfield 129, 3) := by decide +kernel
theorem dX9_findOrder_91 : decode cX9_findOrder 91 = .ok (.ishl, 1) := by decide +kernel
theorem dX9_findOrder_92 : decode cX9_findOrder 92 = .ok (.iconst 1, 1) := by decide +kernel
theorem dX9_findOrder_93 : decode cX9_findOrder 93 = .ok (.isub, 1) := by decide +kernel
theorem dX9_findOrder_94 : decode cX9_findOrder 94 = .ok (.if_icmp .ne 95, 3) := by decide +kernel
theorem dX9_findOrder_97 : decode cX9_findOrder 97 = .ok (.iconst 0, 1) := by decide +kernel
theorem dX9_findOrder_98 : decode cX9_findOrder 98 = .ok (.istore 6, 2) := by decide +kernel
theorem dX9_findOrder_100 : decode cX9_findOrder 100 = .ok (.iload 6, 2) := by decide +kernel
theorem dX9_findOrder_102 : decode cX9_findOrder 102 = .ok (.aload_n 0, 1) := by decide +kernel
theorem dX9_findOrder_103 : decode cX9_findOrder 103 = .ok (.getfield 129, 3) := by decide +kernel
theorem dX9_findOrder_106 : decode cX9_findOrder 106 = .ok (.if_icmp .ge 28, 3) := by decide +kernel
theorem dX9_findOrder_109 : decode cX9_findOrder 109 = .ok (.aload_n 0, 1) := by decide +kernel
theorem dX9_findOrder_110 : decode cX9_findOrder 110 = .ok (.getfield 49, 3) := by decide +kernel
theorem dX9_findOrder_113 : decode cX9_findOrder 113 = .ok (.iload 6, 2) := by decide +kernel
theorem dX9_findOrder_115 : decode cX9_findOrder 115 = .ok (.aload_n 0, 1) := by decide +kernel
theorem dX9_findOrder_116 : decode cX9_findOrder 116 = .ok (.getfield 28, 3) := by decide +kernel
theorem dX9_findOrder_119 : decode cX9_findOrder 119 = .ok (.aload_n 0, 1) := by decide +kernel
theorem dX9_findOrder_120 : decode cX9_findOrder 120 = .ok (.getfield 59, 3) := by decide +kernel
theorem dX9_findOrder_123 : decode cX9_findOrder 123 = .ok (.iload 6, 2) := by decide +kernel
theorem dX9_findOrder_125 : decode cX9_findOrder 125 = .ok (.iaload, 1) := by decide +kernel
theorem dX9_findOrder_126 : decode cX9_findOrder 126 = .ok (.iaload, 1) := by decide +kernel
theorem dX9_findOrder_127 : decode cX9_findOrder 127 = .ok (.iastore, 1) := by decide +kernel
theorem dX9_findOrder_128 : decode cX9_findOrder 128 = .ok (.iinc 6 1, 3) := by decide +kernel
theorem dX9_findOrder_131 : decode cX9_findOrder 131 = .ok (.goto (-31), 3) := by decide +kernel
theorem dX9_findOrder_134 : decode cX9_findOrder 134 = .ok (.aload_n 0, 1) := by decide +kernel
theorem dX9_findOrder_135 : decode cX9_findOrder 135 = .ok (.iload_n 1, 1) := by decide +kernel
theorem dX9_findOrder_136 : decode cX9_findOrder 136 = .ok (.invokevirtual 230, 3) := by decide +kernel
theorem dX9_findOrder_139 : decode cX9_findOrder 139 = .ok (.lstore 6, 2) := by decide +kernel
theorem dX9_findOrder_141 : decode cX9_findOrder 141 = .ok (.lload_n 2, 1) := by decide +kernel
theorem dX9_findOrder_142 : decode cX9_findOrder 142 = .ok (.lconst 0, 1) := by decide +kernel
theorem dX9_findOrder_143 : decode cX9_findOrder 143 = .ok (.lcmp, 1) := by decide +kernel
theorem dX9_findOrder_144 : decode cX9_findOrder 144 = .ok (.ifCond .lt 10, 3) := by decide +kernel
theorem dX9_findOrder_147 : decode cX9_findOrder 147 = .ok (.lload 6, 2) := by decide +kernel
theorem dX9_findOrder_149 : decode cX9_findOrder 149 = .ok (.lload_n 2, 1) := by decide +kernel
theorem dX9_findOrder_150 : decode cX9_findOrder 150 = .ok (.lcmp, 1) := by decide +kernel
theorem dX9_findOrder_151 : decode cX9_findOrder 151 = .ok (.ifCond .ge 38, 3) := by decide +kernel
theorem dX9_findOrder_154 : decode cX9_findOrder 154 = .ok (.lload 6, 2) := by decide +kernel
theorem dX9_findOrder_156 : decode cX9_findOrder 156 = .ok (.lstore_n 2, 1) := by decide +kernel
theorem dX9_findOrder_157 : decode cX9_findOrder 157 = .ok (.iconst 0, 1) := by decide +kernel
theorem dX9_findOrder_158 : decode cX9_findOrder 158 = .ok (.istore 8, 2) := by decide +kernel
theorem dX9_findOrder_160 : decode cX9_findOrder 160 = .ok (.iload 8, 2) := by decide +kernel
theorem dX9_findOrder_162 : decode cX9_findOrder 162 = .ok (.aload_n 0, 1) := by decide +kernel
theorem dX9_findOrder_163 : decode cX9_findOrder 163 = .ok (.getfield 129, 3) := by decide +kernel
theorem dX9_findOrder_166 : decode cX9_findOrder 166 = .ok (.if_icmp .ge 23, 3) := by decide +kernel
theorem dX9_findOrder_169 : decode cX9_findOrder 169 = .ok (.aload_n 0, 1) := by decide +kernel
theorem dX9_findOrder_170 : decode cX9_findOrder 170 = .ok (.getfield 62, 3) := by decide +kernel
theorem dX9_findOrder_173 : decode cX9_findOrder 173 = .ok (.iload 8, 2) := by decide +kernel
theorem dX9_findOrder_175 : decode cX9_findOrder 175 = .ok (.aload_n 0, 1) := by decide +kernel
theorem dX9_findOrder_176 : decode cX9_findOrder 176 = .ok (.getfield 59, 3) := by decide +kernel
theorem dX9_findOrder_179 : decode cX9_findOrder 179 = .ok (.iload 8, 2) := by decide +kernel
theorem dX9_findOrder_181 : decode cX9_findOrder 181 = .ok (.iaload, 1) := by decide +kernel
theorem dX9_findOrder_182 : decode cX9_findOrder 182 = .ok (.iastore, 1) := by decide +kernel
theorem dX9_findOrder_183 : decode cX9_findOrder 183 = .ok (.iinc 8 1, 3) := by decide +kernel
theorem dX9_findOrder_186 : decode cX9_findOrder 186 = .ok (.goto (-26), 3) := by decide +kernel
theorem dX9_findOrder_189 : decode cX9_findOrder 189 = .ok (.iinc 4 1, 3) := by decide +kernel
theorem dX9_findOrder_192 : decode cX9_findOrder 192 = .ok (.goto (-181), 3) := by decide +kernel
theorem dX9_findOrder_195 : decode cX9_findOrder 195 = .ok (.return_, 1) := by decide +kernel
theorem dX9_order_0 : decode cX9_order 0 = .ok (.aload_n 0, 1) := by decide +kernel
theorem dX9_order_1 : decode cX9_order 1 = .ok (.iload_n 1, 1) := by decide +kernel
theorem dX9_order_2 : decode cX9_order 2 = .ok (.invokevirtual 158, 3) := by decide +kernel
theorem dX9_order_5 : decode cX9_order 5 = .ok (.ifCond .eq 19, 3) := by decide +kernel
theorem dX9_order_8 : decode cX9_order 8 = .ok (.iload_n 2, 1) := by decide +kernel
theorem dX9_order_9 : decode cX9_order 9 = .ok (.i2l, 1) := by decide +kernel
theorem dX9_order_10 : decode cX9_order 10 = .ok (.lconst 0, 1) := by decide +kernel
theorem dX9_order_11 : decode cX9_order 11 = .ok (.aload_n 0, 1) := by decide +kernel
theorem dX9_order_12 : decode cX9_order 12 = .ok (.getfield 129, 3) := by decide +kernel
theorem dX9_order_15 : decode cX9_order 15 = .ok (.iconst 1, 1) := by decide +kernel
theorem dX9_order_16 : decode cX9_order 16 = .ok (.isub, 1) := by decide +kernel
theorem dX9_order_17 : decode cX9_order 17 = .ok (.i2l, 1) := by decide +kernel
theorem dX9_order_18 : decode cX9_order 18 = .ok (.invokestatic 89, 3) := by decide +kernel
theorem dX9_order_21 : decode cX9_order 21 = .ok (.ifCond .ne 6, 3) := by decide +kernel
theorem dX9_order_24 : decode cX9_order 24 = .ok (.bipush (-2), 2) := by decide +kernel
theorem dX9_order_26 : decode cX9_order 26 = .ok (.ireturn, 1) := by decide +kernel
theorem dX9_order_27 : decode cX9_order 27 = .ok (.aload_n 0, 1) := by decide +kernel
theorem dX9_order_28 : decode cX9_order 28 = .ok (.iload_n 1, 1) := by decide +kernel
theorem dX9_order_29 : decode cX9_order 29 = .ok (.invokevirtual 294, 3) := by decide +kernel
theorem dX9_order_32 : decode cX9_order 32 = .ok (.aload_n 0, 1) := by decide +kernel
theorem dX9_order_33 : decode cX9_order 33 = .ok (.getfield 62, 3) := by decide +kernel
theorem dX9_order_36 : decode cX9_order 36 = .ok (.iload_n 2, 1) := by decide +kernel
theorem dX9_order_37 : decode cX9_order 37 = .ok (.iaload, 1) := by decide +kernel
theorem dX9_order_38 : decode cX9_order 38 = .ok (.ireturn, 1) := by decide +kernel
theorem dX9_amongOf_0 : decode cX9_amongOf 0 = .ok (.aload_n 0, 1) := by decide +kernel
theorem dX9_amongOf_1 : decode cX9_amongOf 1 = .ok (.invokevirtual 194, 3) := by decide +kernel
theorem dX9_amongOf_4 : decode cX9_amongOf 4 = .ok (.aload_n 0, 1) := by decide +kernel
theorem dX9_amongOf_5 : decode cX9_amongOf 5 = .ok (.getfield 126, 3) := by decide +kernel
theorem dX9_amongOf_8 : decode cX9_amongOf 8 = .ok (.iconst 1, 1) := by decide +kernel
theorem dX9_amongOf_9 : decode cX9_amongOf 9 = .ok (.if_icmp .ne 6, 3) := by decide +kernel
theorem dX9_amongOf_12 : decode cX9_amongOf 12 = .ok (.bipush (-3), 2) := by decide +kernel
theorem dX9_amongOf_14 : decode cX9_amongOf 14 = .ok (.ireturn, 1) := by decide +kernel
theorem dX9_amongOf_15 : decode cX9_amongOf 15 = .ok (.iconst 1, 1) := by decide +kernel
theorem dX9_amongOf_16 : decode cX9_amongOf 16 = .ok (.aload_n 0, 1) := by decide +kernel
theorem dX9_amongOf_17 : decode cX9_amongOf 17 = .ok (.getfield 126, 3) := by decide +kernel
theorem dX9_amongOf_20 : decode cX9_amongOf 20 = .ok (.ishl, 1) := by decide +kernel
theorem dX9_amongOf_21 : decode cX9_amongOf 21 = .ok (.iconst 1, 1) := by decide +kernel
theorem dX9_amongOf_22 : decode cX9_amongOf 22 = .ok (.isub, 1) := by decide +kernel
theorem dX9_amongOf_23 : decode cX9_amongOf 23 = .ok (.istore_n 2, 1) := by decide +kernel
theorem dX9_amongOf_24 : decode cX9_amongOf 24 = .ok (.iconst (-1), 1) := by decide +kernel
theorem dX9_amongOf_25 : decode cX9_amongOf 25 = .ok (.istore_n 3, 1) := by decide +kernel
theorem dX9_amongOf_26 : decode cX9_amongOf 26 = .ok (.lconst 0, 1) := by decide +kernel
theorem dX9_amongOf_27 : decode cX9_amongOf 27 = .ok (.lstore 4, 2) := by decide +kernel
theorem dX9_amongOf_29 : decode cX9_amongOf 29 = .ok (.iconst 1, 1) := by decide +kernel
theorem dX9_amongOf_30 : decode cX9_amongOf 30 = .ok (.istore 6, 2) := by decide +kernel
theorem dX9_amongOf_32 : decode cX9_amongOf 32 = .ok (.iload 6, 2) := by decide +kernel
theorem dX9_amongOf_34 : decode cX9_amongOf 34 = .ok (.iload_n 2, 1) := by decide +kernel
theorem dX9_amongOf_35 : decode cX9_amongOf 35 = .ok (.if_icmp .gt 94, 3) := by decide +kernel
theorem dX9_amongOf_38 : decode cX9_amongOf 38 = .ok (.iload 6, 2) := by decide +kernel
theorem dX9_amongOf_40 : decode cX9_amongOf 40 = .ok (.iload_n 1, 1) := by decide +kernel
theorem dX9_amongOf_41 : decode cX9_amongOf 41 = .ok (.ishr, 1) := by decide +kernel
theorem dX9_amongOf_42 : decode cX9_amongOf 42 = .ok (.iconst 1, 1) := by decide +kernel
theorem dX9_amongOf_43 : decode cX9_amongOf 43 = .ok (.iand, 1) := by decide +kernel
theorem dX9_amongOf_44 : decode cX9_amongOf 44 = .ok (.ifCond .ne 28, 3) := by decide +kernel
theorem dX9_amongOf_47 : decode cX9_amongOf 47 = .ok (.aload_n 0, 1) := by decide +kernel
theorem dX9_amongOf_48 : decode cX9_amongOf 48 = .ok (.getfield 180, 3) := by decide +kernel
theorem dX9_amongOf_51 : decode cX9_amongOf 51 = .ok (.iload_n 1, 1) := by decide +kernel
theorem dX9_amongOf_52 : decode cX9_amongOf 52 = .ok (.if_icmp .eq 16, 3) := by decide +kernel
theorem dX9_amongOf_55 : decode cX9_amongOf 55 = .ok (.iload 6, 2) := by decide +kernel
theorem dX9_amongOf_57 : decode cX9_amongOf 57 = .ok (.aload_n 0, 1) := by decide +kernel
theorem dX9_amongOf_58 : decode cX9_amongOf 58 = .ok (.getfield 180, 3) := by decide +kernel
theorem dX9_amongOf_61 : decode cX9_amongOf 61 = .ok (.ishr, 1) := by decide +kernel
theorem dX9_amongOf_62 : decode cX9_amongOf 62 = .ok (.iconst 1, 1) := by decide +kernel
theorem dX9_amongOf_63 : decode cX9_amongOf 63 = .ok (.iand, 1) := by decide +kernel
theorem dX9_amongOf_64 : decode cX9_amongOf 64 = .ok (.iconst 1, 1) := by decide +kernel
theorem dX9_amongOf_65 : decode cX9_amongOf 65 = .ok (.if_icmp .ne 7, 3) := by decide +kernel
theorem dX9_amongOf_68 : decode cX9_amongOf 68 = .ok (.iconst 1, 1) := by decide +kernel
theorem dX9_amongOf_69 : decode cX9_amongOf 69 = .ok (.goto 4, 3) := by decide +kernel
theorem dX9_amongOf_72 : decode cX9_amongOf 72 = .ok (.iconst 0, 1) := by decide +kernel
theorem dX9_amongOf_73 : decode cX9_amongOf 73 = .ok (.istore 7, 2) := by decide +kernel
theorem dX9_amongOf_75 : decode cX9_amongOf 75 = .ok (.iload 7, 2) := by decide +kernel
theorem dX9_amongOf_77 : decode cX9_amongOf 77 = .ok (.ifCond .eq 46, 3) := by decide +kernel
theorem dX9_amongOf_80 : decode cX9_amongOf 80 = .ok (.aload_n 0, 1) := by decide +kernel
theorem dX9_amongOf_81 : decode cX9_amongOf 81 = .ok (.iload_n 2, 1) := by decide +kernel
theorem dX9_amongOf_82 : decode cX9_amongOf 82 = .ok (.iload 6, 2) := by decide +kernel
theorem dX9_amongOf_84 : decode cX9_amongOf 84 = .ok (.iconst (-1), 1) := by decide +kernel
theorem dX9_amongOf_85 : decode cX9_amongOf 85 = .ok (.ixor, 1) := by decide +kernel
theorem dX9_amongOf_86 : decode cX9_amongOf 86 = .ok (.iand, 1) := by decide +kernel
theorem dX9_amongOf_87 : decode cX9_amongOf 87 = .ok (.iconst 1, 1) := by decide +kernel
theorem dX9_amongOf_88 : decode cX9_amongOf 88 = .ok (.iload_n 1, 1) := by decide +kernel
theorem dX9_amongOf_89 : decode cX9_amongOf 89 = .ok (.ishl, 1) := by decide +kernel
theorem dX9_amongOf_90 : decode cX9_amongOf 90 = .ok (.iconst (-1), 1) := by decide +kernel
theorem dX9_amongOf_91 : decode cX9_amongOf 91 = .ok (.ixor, 1) := by decide +kernel
theorem dX9_amongOf_92 : decode cX9_amongOf 92 = .ok (.iand, 1) := by decide +kernel
theorem dX9_amongOf_93 : decode cX9_amongOf 93 = .ok (.putfield 183, 3) := by decide +kernel
theorem dX9_amongOf_96 : decode cX9_amongOf 96 = .ok (.aload_n 0, 1) := by decide +kernel
theorem dX9_amongOf_97 : decode cX9_amongOf 97 = .ok (.iload_n 1, 1) := by decide +kernel
theorem dX9_amongOf_98 : decode cX9_amongOf 98 = .ok (.invokevirtual 230, 3) := by decide +kernel
theorem dX9_amongOf_101 : decode cX9_amongOf 101 = .ok (.lstore 8, 2) := by decide +kernel
theorem dX9_amongOf_103 : decode cX9_amongOf 103 = .ok (.iload_n 3, 1) := by decide +kernel
theorem dX9_amongOf_104 : decode cX9_amongOf 104 = .ok (.iconst (-1), 1) := by decide +kernel
theorem dX9_amongOf_105 : decode cX9_amongOf 105 = .ok (.if_icmp .eq 11, 3) := by decide +kernel
theorem dX9_amongOf_108 : decode cX9_amongOf 108 = .ok (.lload 8, 2) := by decide +kernel
theorem dX9_amongOf_110 : decode cX9_amongOf 110 = .ok (.lload 4, 2) := by decide +kernel
theorem dX9_amongOf_112 : decode cX9_amongOf 112 = .ok (.lcmp, 1) := by decide +kernel
theorem dX9_amongOf_113 : decode cX9_amongOf 113 = .ok (.ifCond .ge 10, 3) := by decide +kernel
theorem dX9_amongOf_116 : decode cX9_amongOf 116 = .ok (.iload 6, 2) := by decide +kernel
theorem dX9_amongOf_118 : decode cX9_amongOf 118 = .ok (.istore_n 3, 1) := by decide +kernel
theorem dX9_amongOf_119 : decode cX9_amongOf 119 = .ok (.lload 8, 2) := by decide +kernel
theorem dX9_amongOf_121 : decode cX9_amongOf 121 = .ok (.lstore 4, 2) := by decide +kernel
theorem dX9_amongOf_123 : decode cX9_amongOf 123 = .ok (.iinc 6 1, 3) := by decide +kernel
theorem dX9_amongOf_126 : decode cX9_amongOf 126 = .ok (.goto (-94), 3) := by decide +kernel
theorem dX9_amongOf_129 : decode cX9_amongOf 129 = .ok (.iload_n 3, 1) := by decide +kernel
theorem dX9_amongOf_130 : decode cX9_amongOf 130 = .ok (.ireturn, 1) := by decide +kernel
theorem dX9_among_0 : decode cX9_among 0 = .ok (.aload_n 0, 1) := by decide +kernel
theorem dX9_among_1 : decode cX9_among 1 = .ok (.iload_n 1, 1) := by decide +kernel
theorem dX9_among_2 : decode cX9_among 2 = .ok (.invokevirtual 158, 3) := by decide +kernel
theorem dX9_among_5 : decode cX9_among 5 = .ok (.ifCond .eq 11, 3) := by decide +kernel
theorem dX9_among_8 : decode cX9_among 8 = .ok (.aload_n 0, 1) := by decide +kernel
theorem dX9_among_9 : decode cX9_among 9 = .ok (.iload_n 1, 1) := by decide +kernel
theorem dX9_among_10 : decode cX9_among 10 = .ok (.invokevirtual 297, 3) := by decide +kernel
theorem dX9_among_13 : decode cX9_among 13 = .ok (.goto 5, 3) := by decide +kernel
theorem dX9_among_16 : decode cX9_among 16 = .ok (.bipush (-2), 2) := by decide +kernel
theorem dX9_among_18 : decode cX9_among 18 = .ok (.ireturn, 1) := by decide +kernel
theorem dX9_hire_0 : decode cX9_hire 0 = .ok (.aload_n 0, 1) := by decide +kernel
theorem dX9_hire_1 : decode cX9_hire 1 = .ok (.iload_n 1, 1) := by decide +kernel
theorem dX9_hire_2 : decode cX9_hire 2 = .ok (.invokevirtual 158, 3) := by decide +kernel
theorem dX9_hire_5 : decode cX9_hire 5 = .ok (.ifCond .eq 22, 3) := by decide +kernel
theorem dX9_hire_8 : decode cX9_hire 8 = .ok (.iload_n 2, 1) := by decide +kernel
theorem dX9_hire_9 : decode cX9_hire 9 = .ok (.i2l, 1) := by decide +kernel
theorem dX9_hire_10 : decode cX9_hire 10 = .ok (.lconst 0, 1) := by decide +kernel
theorem dX9_hire_11 : decode cX9_hire 11 = .ok (.ldc2_w 300, 3) := by decide +kernel
theorem dX9_hire_14 : decode cX9_hire 14 = .ok (.invokestatic 89, 3) := by decide +kernel
theorem dX9_hire_17 : decode cX9_hire 17 = .ok (.ifCond .eq 10, 3) := by decide +kernel
theorem dX9_hire_20 : decode cX9_hire 20 = .ok (.iload_n 3, 1) := by decide +kernel
theorem dX9_hire_21 : decode cX9_hire 21 = .ok (.invokestatic 244, 3) := by decide +kernel
theorem dX9_hire_24 : decode cX9_hire 24 = .ok (.ifCond .ne 9, 3) := by decide +kernel
theorem dX9_hire_27 : decode cX9_hire 27 = .ok (.bipush (-2), 2) := by decide +kernel
theorem dX9_hire_29 : decode cX9_hire 29 = .ok (.invokestatic 251, 3) := by decide +kernel
theorem dX9_hire_32 : decode cX9_hire 32 = .ok (.lreturn, 1) := by decide +kernel
theorem dX9_hire_33 : decode cX9_hire 33 = .ok (.aload_n 0, 1) := by decide +kernel
theorem dX9_hire_34 : decode cX9_hire 34 = .ok (.getfield 126, 3) := by decide +kernel
theorem dX9_hire_37 : decode cX9_hire 37 = .ok (.iconst 4, 1) := by decide +kernel
theorem dX9_hire_38 : decode cX9_hire 38 = .ok (.if_icmp .ne 9, 3) := by decide +kernel
theorem dX9_hire_41 : decode cX9_hire 41 = .ok (.bipush (-4), 2) := by decide +kernel
theorem dX9_hire_43 : decode cX9_hire 43 = .ok (.invokestatic 251, 3) := by decide +kernel
theorem dX9_hire_46 : decode cX9_hire 46 = .ok (.lreturn, 1) := by decide +kernel
theorem dX9_hire_47 : decode cX9_hire 47 = .ok (.aload_n 0, 1) := by decide +kernel
theorem dX9_hire_48 : decode cX9_hire 48 = .ok (.invokevirtual 194, 3) := by decide +kernel
theorem dX9_hire_51 : decode cX9_hire 51 = .ok (.aload_n 0, 1) := by decide +kernel
theorem dX9_hire_52 : decode cX9_hire 52 = .ok (.iload_n 1, 1) := by decide +kernel
theorem dX9_hire_53 : decode cX9_hire 53 = .ok (.invokevirtual 258, 3) := by decide +kernel
theorem dX9_hire_56 : decode cX9_hire 56 = .ok (.lstore 4, 2) := by decide +kernel
theorem dX9_hire_58 : decode cX9_hire 58 = .ok (.aload_n 0, 1) := by decide +kernel
theorem dX9_hire_59 : decode cX9_hire 59 = .ok (.getfield 46, 3) := by decide +kernel
theorem dX9_hire_62 : decode cX9_hire 62 = .ok (.aload_n 0, 1) := by decide +kernel
theorem dX9_hire_63 : decode cX9_hire 63 = .ok (.getfield 126, 3) := by decide +kernel
theorem dX9_hire_66 : decode cX9_hire 66 = .ok (.iload_n 2, 1) := by decide +kernel
theorem dX9_hire_67 : decode cX9_hire 67 = .ok (.iastore, 1) := by decide +kernel
theorem dX9_hire_68 : decode cX9_hire 68 = .ok (.aload_n 0, 1) := by decide +kernel
theorem dX9_hire_69 : decode cX9_hire 69 = .ok (.getfield 40, 3) := by decide +kernel
theorem dX9_hire_72 : decode cX9_hire 72 = .ok (.aload_n 0, 1) := by decide +kernel
theorem dX9_hire_73 : decode cX9_hire 73 = .ok (.getfield 126, 3) := by decide +kernel
theorem dX9_hire_76 : decode cX9_hire 76 = .ok (.iconst 0, 1) := by decide +kernel
theorem dX9_hire_77 : decode cX9_hire 77 = .ok (.iastore, 1) := by decide +kernel
theorem dX9_hire_78 : decode cX9_hire 78 = .ok (.aload_n 0, 1) := by decide +kernel
theorem dX9_hire_79 : decode cX9_hire 79 = .ok (.getfield 43, 3) := by decide +kernel
theorem dX9_hire_82 : decode cX9_hire 82 = .ok (.aload_n 0, 1) := by decide +kernel
theorem dX9_hire_83 : decode cX9_hire 83 = .ok (.getfield 126, 3) := by decide +kernel
theorem dX9_hire_86 : decode cX9_hire 86 = .ok (.iconst 4, 1) := by decide +kernel
theorem dX9_hire_87 : decode cX9_hire 87 = .ok (.iastore, 1) := by decide +kernel
theorem dX9_hire_88 : decode cX9_hire 88 = .ok (.aload_n 0, 1) := by decide +kernel
theorem dX9_hire_89 : decode cX9_hire 89 = .ok (.aload_n 0, 1) := by decide +kernel
theorem dX9_hire_90 : decode cX9_hire 90 = .ok (.getfield 126, 3) := by decide +kernel
theorem dX9_hire_93 : decode cX9_hire 93 = .ok (.iconst 1, 1) := by decide +kernel
theorem dX9_hire_94 : decode cX9_hire 94 = .ok (.iadd, 1) := by decide +kernel
theorem dX9_hire_95 : decode cX9_hire 95 = .ok (.putfield 171, 3) := by decide +kernel
theorem dX9_hire_98 : decode cX9_hire 98 = .ok (.lload 4, 2) := by decide +kernel
theorem dX9_hire_100 : decode cX9_hire 100 = .ok (.aload_n 0, 1) := by decide +kernel
theorem dX9_hire_101 : decode cX9_hire 101 = .ok (.iload_n 1, 1) := by decide +kernel
theorem dX9_hire_102 : decode cX9_hire 102 = .ok (.invokevirtual 258, 3) := by decide +kernel
theorem dX9_hire_105 : decode cX9_hire 105 = .ok (.lsub, 1) := by decide +kernel
theorem dX9_hire_106 : decode cX9_hire 106 = .ok (.aload_n 0, 1) := by decide +kernel
theorem dX9_hire_107 : decode cX9_hire 107 = .ok (.invokevirtual 233, 3) := by decide +kernel
theorem dX9_hire_110 : decode cX9_hire 110 = .ok (.iload_n 3, 1) := by decide +kernel
theorem dX9_hire_111 : decode cX9_hire 111 = .ok (.invokestatic 240, 3) := by decide +kernel
theorem dX9_hire_114 : decode cX9_hire 114 = .ok (.lreturn, 1) := by decide +kernel
theorem dX9_other_0 : decode cX9_other 0 = .ok (.aload_n 0, 1) := by decide +kernel
theorem dX9_other_1 : decode cX9_other 1 = .ok (.iload_n 1, 1) := by decide +kernel
theorem dX9_other_2 : decode cX9_other 2 = .ok (.invokevirtual 158, 3) := by decide +kernel
theorem dX9_other_5 : decode cX9_other 5 = .ok (.ifCond .eq 35, 3) := by decide +kernel
theorem dX9_other_8 : decode cX9_other 8 = .ok (.iload_n 2, 1) := by decide +kernel
theorem dX9_other_9 : decode cX9_other 9 = .ok (.i2l, 1) := by decide +kernel
theorem dX9_other_10 : decode cX9_other 10 = .ok (.lconst 0, 1) := by decide +kernel
theorem dX9_other_11 : decode cX9_other 11 = .ok (.ldc2_w 103, 3) := by decide +kernel
theorem dX9_other_14 : decode cX9_other 14 = .ok (.invokestatic 89, 3) := by decide +kernel
theorem dX9_other_17 : decode cX9_other 17 = .ok (.ifCond .eq 23, 3) := by decide +kernel
theorem dX9_other_20 : decode cX9_other 20 = .ok (.iload_n 3, 1) := by decide +kernel
theorem dX9_other_21 : decode cX9_other 21 = .ok (.i2l, 1) := by decide +kernel
theorem dX9_other_22 : decode cX9_other 22 = .ok (.lconst 0, 1) := by decide +kernel
theorem dX9_other_23 : decode cX9_other 23 = .ok (.ldc2_w 103, 3) := by decide +kernel
theorem dX9_other_26 : decode cX9_other 26 = .ok (.invokestatic 89, 3) := by decide +kernel
theorem dX9_other_29 : decode cX9_other 29 = .ok (.ifCond .eq 11, 3) := by decide +kernel
theorem dX9_other_32 : decode cX9_other 32 = .ok (.iload 4, 2) := by decide +kernel
theorem dX9_other_34 : decode cX9_other 34 = .ok (.invokestatic 244, 3) := by decide +kernel
theorem dX9_other_37 : decode cX9_other 37 = .ok (.ifCond .ne 9, 3) := by decide +kernel
theorem dX9_other_40 : decode cX9_other 40 = .ok (.bipush (-2), 2) := by decide +kernel
theorem dX9_other_42 : decode cX9_other 42 = .ok (.invokestatic 251, 3) := by decide +kernel
theorem dX9_other_45 : decode cX9_other 45 = .ok (.lreturn, 1) := by decide +kernel
theorem dX9_other_46 : decode cX9_other 46 = .ok (.aload_n 0, 1) := by decide +kernel
theorem dX9_other_47 : decode cX9_other 47 = .ok (.invokevirtual 194, 3) := by decide +kernel
theorem dX9_other_50 : decode cX9_other 50 = .ok (.aload_n 0, 1) := by decide +kernel
theorem dX9_other_51 : decode cX9_other 51 = .ok (.iload_n 2, 1) := by decide +kernel
theorem dX9_other_52 : decode cX9_other 52 = .ok (.putfield 174, 3) := by decide +kernel
theorem dX9_other_55 : decode cX9_other 55 = .ok (.aload_n 0, 1) := by decide +kernel
theorem dX9_other_56 : decode cX9_other 56 = .ok (.iload_n 3, 1) := by decide +kernel
theorem dX9_other_57 : decode cX9_other 57 = .ok (.putfield 177, 3) := by decide +kernel
theorem dX9_other_60 : decode cX9_other 60 = .ok (.aload_n 0, 1) := by decide +kernel
theorem dX9_other_61 : decode cX9_other 61 = .ok (.iload_n 1, 1) := by decide +kernel
theorem dX9_other_62 : decode cX9_other 62 = .ok (.invokevirtual 230, 3) := by decide +kernel
theorem dX9_other_65 : decode cX9_other 65 = .ok (.aload_n 0, 1) := by decide +kernel
theorem dX9_other_66 : decode cX9_other 66 = .ok (.invokevirtual 233, 3) := by decide +kernel
theorem dX9_other_69 : decode cX9_other 69 = .ok (.iload 4, 2) := by decide +kernel
theorem dX9_other_71 : decode cX9_other 71 = .ok (.invokestatic 240, 3) := by decide +kernel
theorem dX9_other_74 : decode cX9_other 74 = .ok (.lreturn, 1) := by decide +kernel
theorem dX9_lawForOf_0 : decode cX9_lawForOf 0 = .ok (.aload_n 0, 1) := by decide +kernel
theorem dX9_lawForOf_1 : decode cX9_lawForOf 1 = .ok (.invokevirtual 194, 3) := by decide +kernel
theorem dX9_lawForOf_4 : decode cX9_lawForOf 4 = .ok (.iconst (-1), 1) := by decide +kernel
theorem dX9_lawForOf_5 : decode cX9_lawForOf 5 = .ok (.istore_n 2, 1) := by decide +kernel
theorem dX9_lawForOf_6 : decode cX9_lawForOf 6 = .ok (.lconst 0, 1) := by decide +kernel
theorem dX9_lawForOf_7 : decode cX9_lawForOf 7 = .ok (.lstore_n 3, 1) := by decide +kernel
theorem dX9_lawForOf_8 : decode cX9_lawForOf 8 = .ok (.iconst 0, 1) := by decide +kernel
theorem dX9_lawForOf_9 : decode cX9_lawForOf 9 = .ok (.istore 5, 2) := by decide +kernel
theorem dX9_lawForOf_11 : decode cX9_lawForOf 11 = .ok (.iload 5, 2) := by decide +kernel
theorem dX9_lawForOf_13 : decode cX9_lawForOf 13 = .ok (.bipush 9, 2) := by decide +kernel
theorem dX9_lawForOf_15 : decode cX9_lawForOf 15 = .ok (.if_icmp .ge 50, 3) := by decide +kernel
theorem dX9_lawForOf_18 : decode cX9_lawForOf 18 = .ok (.aload_n 0, 1) := by decide +kernel
theorem dX9_lawForOf_19 : decode cX9_lawForOf 19 = .ok (.iload 5, 2) := by decide +kernel
theorem dX9_lawForOf_21 : decode cX9_lawForOf 21 = .ok (.iconst 3, 1) := by decide +kernel
theorem dX9_lawForOf_22 : decode cX9_lawForOf 22 = .ok (.idiv, 1) := by decide +kernel
theorem dX9_lawForOf_23 : decode cX9_lawForOf 23 = .ok (.putfield 174, 3) := by decide +kernel
theorem dX9_lawForOf_26 : decode cX9_lawForOf 26 = .ok (.aload_n 0, 1) := by decide +kernel
theorem dX9_lawForOf_27 : decode cX9_lawForOf 27 = .ok (.iload 5, 2) := by decide +kernel
theorem dX9_lawForOf_29 : decode cX9_lawForOf 29 = .ok (.iconst 3, 1) := by decide +kernel
theorem dX9_lawForOf_30 : decode cX9_lawForOf 30 = .ok (.irem, 1) := by decide +kernel
theorem dX9_lawForOf_31 : decode cX9_lawForOf 31 = .ok (.putfield 177, 3) := by decide +kernel
theorem dX9_lawForOf_34 : decode cX9_lawForOf 34 = .ok (.aload_n 0, 1) := by decide +kernel
theorem dX9_lawForOf_35 : decode cX9_lawForOf 35 = .ok (.iload_n 1, 1) := by decide +kernel
theorem dX9_lawForOf_36 : decode cX9_lawForOf 36 = .ok (.invokevirtual 230, 3) := by decide +kernel
theorem dX9_lawForOf_39 : decode cX9_lawForOf 39 = .ok (.lstore 6, 2) := by decide +kernel
theorem dX9_lawForOf_41 : decode cX9_lawForOf 41 = .ok (.iload_n 2, 1) := by decide +kernel
theorem dX9_lawForOf_42 : decode cX9_lawForOf 42 = .ok (.iconst (-1), 1) := by decide +kernel
theorem dX9_lawForOf_43 : decode cX9_lawForOf 43 = .ok (.if_icmp .eq 10, 3) := by decide +kernel
theorem dX9_lawForOf_46 : decode cX9_lawForOf 46 = .ok (.lload 6, 2) := by decide +kernel
theorem dX9_lawForOf_48 : decode cX9_lawForOf 48 = .ok (.lload_n 3, 1) := by decide +kernel
theorem dX9_lawForOf_49 : decode cX9_lawForOf 49 = .ok (.lcmp, 1) := by decide +kernel
theorem dX9_lawForOf_50 : decode cX9_lawForOf 50 = .ok (.ifCond .ge 9, 3) := by decide +kernel
theorem dX9_lawForOf_53 : decode cX9_lawForOf 53 = .ok (.iload 5, 2) := by decide +kernel
theorem dX9_lawForOf_55 : decode cX9_lawForOf 55 = .ok (.istore_n 2, 1) := by decide +kernel
theorem dX9_lawForOf_56 : decode cX9_lawForOf 56 = .ok (.lload 6, 2) := by decide +kernel
theorem dX9_lawForOf_58 : decode cX9_lawForOf 58 = .ok (.lstore_n 3, 1) := by decide +kernel
theorem dX9_lawForOf_59 : decode cX9_lawForOf 59 = .ok (.iinc 5 1, 3) := by decide +kernel
theorem dX9_lawForOf_62 : decode cX9_lawForOf 62 = .ok (.goto (-51), 3) := by decide +kernel
theorem dX9_lawForOf_65 : decode cX9_lawForOf 65 = .ok (.iload_n 2, 1) := by decide +kernel
theorem dX9_lawForOf_66 : decode cX9_lawForOf 66 = .ok (.ireturn, 1) := by decide +kernel
theorem dX9_lawFor_0 : decode cX9_lawFor 0 = .ok (.aload_n 0, 1) := by decide +kernel
theorem dX9_lawFor_1 : decode cX9_lawFor 1 = .ok (.iload_n 1, 1) := by decide +kernel
theorem dX9_lawFor_2 : decode cX9_lawFor 2 = .ok (.invokevirtual 158, 3) := by decide +kernel
theorem dX9_lawFor_5 : decode cX9_lawFor 5 = .ok (.ifCond .eq 11, 3) := by decide +kernel
theorem dX9_lawFor_8 : decode cX9_lawFor 8 = .ok (.aload_n 0, 1) := by decide +kernel
theorem dX9_lawFor_9 : decode cX9_lawFor 9 = .ok (.iload_n 1, 1) := by decide +kernel
theorem dX9_lawFor_10 : decode cX9_lawFor 10 = .ok (.invokevirtual 302, 3) := by decide +kernel
theorem dX9_lawFor_13 : decode cX9_lawFor 13 = .ok (.goto 5, 3) := by decide +kernel
theorem dX9_lawFor_16 : decode cX9_lawFor 16 = .ok (.bipush (-2), 2) := by decide +kernel
theorem dX9_lawFor_18 : decode cX9_lawFor 18 = .ok (.ireturn, 1) := by decide +kernel
theorem dX9_edgeOf_0 : decode cX9_edgeOf 0 = .ok (.aload_n 0, 1) := by decide +kernel
theorem dX9_edgeOf_1 : decode cX9_edgeOf 1 = .ok (.invokevirtual 194, 3) := by decide +kernel
theorem dX9_edgeOf_4 : decode cX9_edgeOf 4 = .ok (.aload_n 0, 1) := by decide +kernel
theorem dX9_edgeOf_5 : decode cX9_edgeOf 5 = .ok (.getfield 129, 3) := by decide +kernel
theorem dX9_edgeOf_8 : decode cX9_edgeOf 8 = .ok (.ifCond .ne 6, 3) := by decide +kernel
theorem dX9_edgeOf_11 : decode cX9_edgeOf 11 = .ok (.bipush (-3), 2) := by decide +kernel
theorem dX9_edgeOf_13 : decode cX9_edgeOf 13 = .ok (.ireturn, 1) := by decide +kernel
theorem dX9_edgeOf_14 : decode cX9_edgeOf 14 = .ok (.iconst 0, 1) := by decide +kernel
theorem dX9_edgeOf_15 : decode cX9_edgeOf 15 = .ok (.istore_n 2, 1) := by decide +kernel
theorem dX9_edgeOf_16 : decode cX9_edgeOf 16 = .ok (.iload_n 2, 1) := by decide +kernel
theorem dX9_edgeOf_17 : decode cX9_edgeOf 17 = .ok (.bipush 10, 2) := by decide +kernel
theorem dX9_edgeOf_19 : decode cX9_edgeOf 19 = .ok (.if_icmp .ge 58, 3) := by decide +kernel
theorem dX9_edgeOf_22 : decode cX9_edgeOf 22 = .ok (.aload_n 0, 1) := by decide +kernel
theorem dX9_edgeOf_23 : decode cX9_edgeOf 23 = .ok (.getfield 49, 3) := by decide +kernel
theorem dX9_edgeOf_26 : decode cX9_edgeOf 26 = .ok (.aload_n 0, 1) := by decide +kernel
theorem dX9_edgeOf_27 : decode cX9_edgeOf 27 = .ok (.getfield 129, 3) := by decide +kernel
theorem dX9_edgeOf_30 : decode cX9_edgeOf 30 = .ok (.iconst 1, 1) := by decide +kernel
theorem dX9_edgeOf_31 : decode cX9_edgeOf 31 = .ok (.isub, 1) := by decide +kernel
theorem dX9_edgeOf_32 : decode cX9_edgeOf 32 = .ok (.iload_n 2, 1) := by decide +kernel
theorem dX9_edgeOf_33 : decode cX9_edgeOf 33 = .ok (.iastore, 1) := by decide +kernel
theorem dX9_edgeOf_34 : decode cX9_edgeOf 34 = .ok (.aload_n 0, 1) := by decide +kernel
theorem dX9_edgeOf_35 : decode cX9_edgeOf 35 = .ok (.getfield 43, 3) := by decide +kernel
theorem dX9_edgeOf_38 : decode cX9_edgeOf 38 = .ok (.iload_n 1, 1) := by decide +kernel
theorem dX9_edgeOf_39 : decode cX9_edgeOf 39 = .ok (.aload_n 0, 1) := by decide +kernel
theorem dX9_edgeOf_40 : decode cX9_edgeOf 40 = .ok (.getfield 129, 3) := by decide +kernel
theorem dX9_edgeOf_43 : decode cX9_edgeOf 43 = .ok (.iconst 1, 1) := by decide +kernel
theorem dX9_edgeOf_44 : decode cX9_edgeOf 44 = .ok (.isub, 1) := by decide +kernel
theorem dX9_edgeOf_45 : decode cX9_edgeOf 45 = .ok (.iastore, 1) := by decide +kernel
theorem dX9_edgeOf_46 : decode cX9_edgeOf 46 = .ok (.aload_n 0, 1) := by decide +kernel
theorem dX9_edgeOf_47 : decode cX9_edgeOf 47 = .ok (.iload_n 1, 1) := by decide +kernel
theorem dX9_edgeOf_48 : decode cX9_edgeOf 48 = .ok (.invokevirtual 258, 3) := by decide +kernel
theorem dX9_edgeOf_51 : decode cX9_edgeOf 51 = .ok (.lstore_n 3, 1) := by decide +kernel
theorem dX9_edgeOf_52 : decode cX9_edgeOf 52 = .ok (.aload_n 0, 1) := by decide +kernel
theorem dX9_edgeOf_53 : decode cX9_edgeOf 53 = .ok (.getfield 43, 3) := by decide +kernel
theorem dX9_edgeOf_56 : decode cX9_edgeOf 56 = .ok (.iload_n 1, 1) := by decide +kernel
theorem dX9_edgeOf_57 : decode cX9_edgeOf 57 = .ok (.iconst 4, 1) := by decide +kernel
theorem dX9_edgeOf_58 : decode cX9_edgeOf 58 = .ok (.iastore, 1) := by decide +kernel
theorem dX9_edgeOf_59 : decode cX9_edgeOf 59 = .ok (.lload_n 3, 1) := by decide +kernel
theorem dX9_edgeOf_60 : decode cX9_edgeOf 60 = .ok (.aload_n 0, 1) := by decide +kernel
theorem dX9_edgeOf_61 : decode cX9_edgeOf 61 = .ok (.iload_n 1, 1) := by decide +kernel
theorem dX9_edgeOf_62 : decode cX9_edgeOf 62 = .ok (.invokevirtual 258, 3) := by decide +kernel
theorem dX9_edgeOf_65 : decode cX9_edgeOf 65 = .ok (.lcmp, 1) := by decide +kernel
theorem dX9_edgeOf_66 : decode cX9_edgeOf 66 = .ok (.ifCond .ge 5, 3) := by decide +kernel
theorem dX9_edgeOf_69 : decode cX9_edgeOf 69 = .ok (.iload_n 2, 1) := by decide +kernel
theorem dX9_edgeOf_70 : decode cX9_edgeOf 70 = .ok (.ireturn, 1) := by decide +kernel
theorem dX9_edgeOf_71 : decode cX9_edgeOf 71 = .ok (.iinc 2 1, 3) := by decide +kernel
theorem dX9_edgeOf_74 : decode cX9_edgeOf 74 = .ok (.goto (-58), 3) := by decide +kernel
theorem dX9_edgeOf_77 : decode cX9_edgeOf 77 = .ok (.iconst (-1), 1) := by decide +kernel
theorem dX9_edgeOf_78 : decode cX9_edgeOf 78 = .ok (.ireturn, 1) := by decide +kernel
theorem dX9_edge_0 : decode cX9_edge 0 = .ok (.aload_n 0, 1) := by decide +kernel
theorem dX9_edge_1 : decode cX9_edge 1 = .ok (.iload_n 1, 1) := by decide +kernel
theorem dX9_edge_2 : decode cX9_edge 2 = .ok (.invokevirtual 158, 3) := by decide +kernel
theorem dX9_edge_5 : decode cX9_edge 5 = .ok (.ifCond .eq 11, 3) := by decide +kernel
theorem dX9_edge_8 : decode cX9_edge 8 = .ok (.aload_n 0, 1) := by decide +kernel
theorem dX9_edge_9 : decode cX9_edge 9 = .ok (.iload_n 1, 1) := by decide +kernel
theorem dX9_edge_10 : decode cX9_edge 10 = .ok (.invokevirtual 305, 3) := by decide +kernel
theorem dX9_edge_13 : decode cX9_edge 13 = .ok (.goto 5, 3) := by decide +kernel
theorem dX9_edge_16 : decode cX9_edge 16 = .ok (.bipush (-2), 2) := by decide +kernel
theorem dX9_edge_18 : decode cX9_edge 18 = .ok (.ireturn, 1) := by decide +kernel
theorem dX9_weight_0 : decode cX9_weight 0 = .ok (.iload_n 1, 1) := by decide +kernel
theorem dX9_weight_1 : decode cX9_weight 1 = .ok (.i2l, 1) := by decide +kernel
theorem dX9_weight_2 : decode cX9_weight 2 = .ok (.lconst 0, 1) := by decide +kernel
theorem dX9_weight_3 : decode cX9_weight 3 = .ok (.ldc2_w 169, 3) := by decide +kernel
theorem dX9_weight_6 : decode cX9_weight 6 = .ok (.invokestatic 89, 3) := by decide +kernel
theorem dX9_weight_9 : decode cX9_weight 9 = .ok (.ifCond .eq 15, 3) := by decide +kernel
theorem dX9_weight_12 : decode cX9_weight 12 = .ok (.iload_n 2, 1) := by decide +kernel
theorem dX9_weight_13 : decode cX9_weight 13 = .ok (.i2l, 1) := by decide +kernel
theorem dX9_weight_14 : decode cX9_weight 14 = .ok (.lconst 0, 1) := by decide +kernel
theorem dX9_weight_15 : decode cX9_weight 15 = .ok (.ldc2_w 300, 3) := by decide +kernel
theorem dX9_weight_18 : decode cX9_weight 18 = .ok (.invokestatic 89, 3) := by decide +kernel
theorem dX9_weight_21 : decode cX9_weight 21 = .ok (.ifCond .ne 6, 3) := by decide +kernel
theorem dX9_weight_24 : decode cX9_weight 24 = .ok (.bipush (-2), 2) := by decide +kernel
theorem dX9_weight_26 : decode cX9_weight 26 = .ok (.ireturn, 1) := by decide +kernel
theorem dX9_weight_27 : decode cX9_weight 27 = .ok (.aload_n 0, 1) := by decide +kernel
theorem dX9_weight_28 : decode cX9_weight 28 = .ok (.getfield 65, 3) := by decide +kernel
theorem dX9_weight_31 : decode cX9_weight 31 = .ok (.iload_n 1, 1) := by decide +kernel
theorem dX9_weight_32 : decode cX9_weight 32 = .ok (.iaload, 1) := by decide +kernel
theorem dX9_weight_33 : decode cX9_weight 33 = .ok (.istore_n 3, 1) := by decide +kernel
theorem dX9_weight_34 : decode cX9_weight 34 = .ok (.aload_n 0, 1) := by decide +kernel
theorem dX9_weight_35 : decode cX9_weight 35 = .ok (.getfield 65, 3) := by decide +kernel
theorem dX9_weight_38 : decode cX9_weight 38 = .ok (.iload_n 1, 1) := by decide +kernel
theorem dX9_weight_39 : decode cX9_weight 39 = .ok (.iload_n 2, 1) := by decide +kernel
theorem dX9_weight_40 : decode cX9_weight 40 = .ok (.iastore, 1) := by decide +kernel
theorem dX9_weight_41 : decode cX9_weight 41 = .ok (.iload_n 3, 1) := by decide +kernel
theorem dX9_weight_42 : decode cX9_weight 42 = .ok (.ireturn, 1) := by decide +kernel
theorem dX9_allWeights_0 : decode cX9_allWeights 0 = .ok (.iconst 0, 1) := by decide +kernel
theorem dX9_allWeights_1 : decode cX9_allWeights 1 = .ok (.istore_n 1, 1) := by decide +kernel
theorem dX9_allWeights_2 : decode cX9_allWeights 2 = .ok (.iconst 0, 1) := by decide +kernel
theorem dX9_allWeights_3 : decode cX9_allWeights 3 = .ok (.istore_n 2, 1) := by decide +kernel
theorem dX9_allWeights_4 : decode cX9_allWeights 4 = .ok (.iload_n 2, 1) := by decide +kernel
theorem dX9_allWeights_5 : decode cX9_allWeights 5 = .ok (.iconst 5, 1) := by decide +kernel
theorem dX9_allWeights_6 : decode cX9_allWeights 6 = .ok (.if_icmp .ge 18, 3) := by decide +kernel
theorem dX9_allWeights_9 : decode cX9_allWeights 9 = .ok (.iload_n 1, 1) := by decide +kernel
theorem dX9_allWeights_10 : decode cX9_allWeights 10 = .ok (.aload_n 0, 1) := by decide +kernel
theorem dX9_allWeights_11 : decode cX9_allWeights 11 = .ok (.getfield 65, 3) := by decide +kernel
theorem dX9_allWeights_14 : decode cX9_allWeights 14 = .ok (.iload_n 2, 1) := by decide +kernel
theorem dX9_allWeights_15 : decode cX9_allWeights 15 = .ok (.iaload, 1) := by decide +kernel
theorem dX9_allWeights_16 : decode cX9_allWeights 16 = .ok (.iadd, 1) := by decide +kernel
theorem dX9_allWeights_17 : decode cX9_allWeights 17 = .ok (.istore_n 1, 1) := by decide +kernel
theorem dX9_allWeights_18 : decode cX9_allWeights 18 = .ok (.iinc 2 1, 3) := by decide +kernel
theorem dX9_allWeights_21 : decode cX9_allWeights 21 = .ok (.goto (-17), 3) := by decide +kernel
theorem dX9_allWeights_24 : decode cX9_allWeights 24 = .ok (.iload_n 1, 1) := by decide +kernel
theorem dX9_allWeights_25 : decode cX9_allWeights 25 = .ok (.ireturn, 1) := by decide +kernel
theorem dX9_earlyOf_0 : decode cX9_earlyOf 0 = .ok (.aload_n 0, 1) := by decide +kernel
theorem dX9_earlyOf_1 : decode cX9_earlyOf 1 = .ok (.invokevirtual 194, 3) := by decide +kernel
theorem dX9_earlyOf_4 : decode cX9_earlyOf 4 = .ok (.aload_n 0, 1) := by decide +kernel
theorem dX9_earlyOf_5 : decode cX9_earlyOf 5 = .ok (.invokevirtual 308, 3) := by decide +kernel
theorem dX9_earlyOf_8 : decode cX9_earlyOf 8 = .ok (.ifCond .ne 9, 3) := by decide +kernel
theorem dX9_earlyOf_11 : decode cX9_earlyOf 11 = .ok (.bipush (-3), 2) := by decide +kernel
theorem dX9_earlyOf_13 : decode cX9_earlyOf 13 = .ok (.invokestatic 251, 3) := by decide +kernel
theorem dX9_earlyOf_16 : decode cX9_earlyOf 16 = .ok (.lreturn, 1) := by decide +kernel
theorem dX9_earlyOf_17 : decode cX9_earlyOf 17 = .ok (.lconst 0, 1) := by decide +kernel
theorem dX9_earlyOf_18 : decode cX9_earlyOf 18 = .ok (.lstore_n 3, 1) := by decide +kernel
theorem dX9_earlyOf_19 : decode cX9_earlyOf 19 = .ok (.iconst 0, 1) := by decide +kernel
theorem dX9_earlyOf_20 : decode cX9_earlyOf 20 = .ok (.istore 5, 2) := by decide +kernel
theorem dX9_earlyOf_22 : decode cX9_earlyOf 22 = .ok (.iload 5, 2) := by decide +kernel
theorem dX9_earlyOf_24 : decode cX9_earlyOf 24 = .ok (.iconst 5, 1) := by decide +kernel
theorem dX9_earlyOf_25 : decode cX9_earlyOf 25 = .ok (.if_icmp .ge 63, 3) := by decide +kernel
theorem dX9_earlyOf_28 : decode cX9_earlyOf 28 = .ok (.iload 5, 2) := by decide +kernel
theorem dX9_earlyOf_30 : decode cX9_earlyOf 30 = .ok (.aload_n 0, 1) := by decide +kernel
theorem dX9_earlyOf_31 : decode cX9_earlyOf 31 = .ok (.getfield 129, 3) := by decide +kernel
theorem dX9_earlyOf_34 : decode cX9_earlyOf 34 = .ok (.if_icmp .ge 8, 3) := by decide +kernel
theorem dX9_earlyOf_37 : decode cX9_earlyOf 37 = .ok (.iload 5, 2) := by decide +kernel
theorem dX9_earlyOf_39 : decode cX9_earlyOf 39 = .ok (.goto 7, 3) := by decide +kernel
theorem dX9_earlyOf_42 : decode cX9_earlyOf 42 = .ok (.aload_n 0, 1) := by decide +kernel
theorem dX9_earlyOf_43 : decode cX9_earlyOf 43 = .ok (.getfield 129, 3) := by decide +kernel
theorem dX9_earlyOf_46 : decode cX9_earlyOf 46 = .ok (.istore 6, 2) := by decide +kernel
theorem dX9_earlyOf_48 : decode cX9_earlyOf 48 = .ok (.aload_n 0, 1) := by decide +kernel
theorem dX9_earlyOf_49 : decode cX9_earlyOf 49 = .ok (.iload 6, 2) := by decide +kernel
theorem dX9_earlyOf_51 : decode cX9_earlyOf 51 = .ok (.invokevirtual 221, 3) := by decide +kernel
theorem dX9_earlyOf_54 : decode cX9_earlyOf 54 = .ok (.lload_n 3, 1) := by decide +kernel
theorem dX9_earlyOf_55 : decode cX9_earlyOf 55 = .ok (.aload_n 0, 1) := by decide +kernel
theorem dX9_earlyOf_56 : decode cX9_earlyOf 56 = .ok (.getfield 65, 3) := by decide +kernel
theorem dX9_earlyOf_59 : decode cX9_earlyOf 59 = .ok (.iload 5, 2) := by decide +kernel
theorem dX9_earlyOf_61 : decode cX9_earlyOf 61 = .ok (.iaload, 1) := by decide +kernel
theorem dX9_earlyOf_62 : decode cX9_earlyOf 62 = .ok (.i2l, 1) := by decide +kernel
theorem dX9_earlyOf_63 : decode cX9_earlyOf 63 = .ok (.aload_n 0, 1) := by decide +kernel
theorem dX9_earlyOf_64 : decode cX9_earlyOf 64 = .ok (.iload_n 1, 1) := by decide +kernel
theorem dX9_earlyOf_65 : decode cX9_earlyOf 65 = .ok (.invokevirtual 237, 3) := by decide +kernel
theorem dX9_earlyOf_68 : decode cX9_earlyOf 68 = .ok (.lmul, 1) := by decide +kernel
theorem dX9_earlyOf_69 : decode cX9_earlyOf 69 = .ok (.aload_n 0, 1) := by decide +kernel
theorem dX9_earlyOf_70 : decode cX9_earlyOf 70 = .ok (.getfield 129, 3) := by decide +kernel
theorem dX9_earlyOf_73 : decode cX9_earlyOf 73 = .ok (.iload 6, 2) := by decide +kernel
theorem dX9_earlyOf_75 : decode cX9_earlyOf 75 = .ok (.isub, 1) := by decide +kernel
theorem dX9_earlyOf_76 : decode cX9_earlyOf 76 = .ok (.invokestatic 226, 3) := by decide +kernel
theorem dX9_earlyOf_79 : decode cX9_earlyOf 79 = .ok (.lmul, 1) := by decide +kernel
theorem dX9_earlyOf_80 : decode cX9_earlyOf 80 = .ok (.ladd, 1) := by decide +kernel
theorem dX9_earlyOf_81 : decode cX9_earlyOf 81 = .ok (.lstore_n 3, 1) := by decide +kernel
theorem dX9_earlyOf_82 : decode cX9_earlyOf 82 = .ok (.iinc 5 1, 3) := by decide +kernel
theorem dX9_earlyOf_85 : decode cX9_earlyOf 85 = .ok (.goto (-63), 3) := by decide +kernel
theorem dX9_earlyOf_88 : decode cX9_earlyOf 88 = .ok (.lload_n 3, 1) := by decide +kernel
theorem dX9_earlyOf_89 : decode cX9_earlyOf 89 = .ok (.aload_n 0, 1) := by decide +kernel
theorem dX9_earlyOf_90 : decode cX9_earlyOf 90 = .ok (.invokevirtual 308, 3) := by decide +kernel
theorem dX9_earlyOf_93 : decode cX9_earlyOf 93 = .ok (.i2l, 1) := by decide +kernel
theorem dX9_earlyOf_94 : decode cX9_earlyOf 94 = .ok (.aload_n 0, 1) := by decide +kernel
theorem dX9_earlyOf_95 : decode cX9_earlyOf 95 = .ok (.getfield 129, 3) := by decide +kernel
theorem dX9_earlyOf_98 : decode cX9_earlyOf 98 = .ok (.invokestatic 226, 3) := by decide +kernel
theorem dX9_earlyOf_101 : decode cX9_earlyOf 101 = .ok (.lmul, 1) := by decide +kernel
theorem dX9_earlyOf_102 : decode cX9_earlyOf 102 = .ok (.iload_n 2, 1) := by decide +kernel
theorem dX9_earlyOf_103 : decode cX9_earlyOf 103 = .ok (.invokestatic 240, 3) := by decide +kernel
theorem dX9_earlyOf_106 : decode cX9_earlyOf 106 = .ok (.lreturn, 1) := by decide +kernel
theorem dX9_early_0 : decode cX9_early 0 = .ok (.aload_n 0, 1) := by decide +kernel
theorem dX9_early_1 : decode cX9_early 1 = .ok (.iload_n 1, 1) := by decide +kernel
theorem dX9_early_2 : decode cX9_early 2 = .ok (.invokevirtual 158, 3) := by decide +kernel
theorem dX9_early_5 : decode cX9_early 5 = .ok (.ifCond .eq 19, 3) := by decide +kernel
theorem dX9_early_8 : decode cX9_early 8 = .ok (.iload_n 2, 1) := by decide +kernel
theorem dX9_early_9 : decode cX9_early 9 = .ok (.invokestatic 244, 3) := by decide +kernel
theorem dX9_early_12 : decode cX9_early 12 = .ok (.ifCond .eq 12, 3) := by decide +kernel
theorem dX9_early_15 : decode cX9_early 15 = .ok (.aload_n 0, 1) := by decide +kernel
theorem dX9_early_16 : decode cX9_early 16 = .ok (.iload_n 1, 1) := by decide +kernel
theorem dX9_early_17 : decode cX9_early 17 = .ok (.iload_n 2, 1) := by decide +kernel
theorem dX9_early_18 : decode cX9_early 18 = .ok (.invokevirtual 311, 3) := by decide +kernel
theorem dX9_early_21 : decode cX9_early 21 = .ok (.goto 8, 3) := by decide +kernel
theorem dX9_early_24 : decode cX9_early 24 = .ok (.bipush (-2), 2) := by decide +kernel
theorem dX9_early_26 : decode cX9_early 26 = .ok (.invokestatic 251, 3) := by decide +kernel
theorem dX9_early_29 : decode cX9_early 29 = .ok (.lreturn, 1) := by decide +kernel
theorem dX9_twoOf_0 : decode cX9_twoOf 0 = .ok (.aload_n 0, 1) := by decide +kernel
theorem dX9_twoOf_1 : decode cX9_twoOf 1 = .ok (.invokevirtual 194, 3) := by decide +kernel
theorem dX9_twoOf_4 : decode cX9_twoOf 4 = .ok (.aload_n 0, 1) := by decide +kernel
theorem dX9_twoOf_5 : decode cX9_twoOf 5 = .ok (.getfield 126, 3) := by decide +kernel
theorem dX9_twoOf_8 : decode cX9_twoOf 8 = .ok (.iconst 2, 1) := by decide +kernel
theorem dX9_twoOf_9 : decode cX9_twoOf 9 = .ok (.if_icmp .eq 9, 3) := by decide +kernel
theorem dX9_twoOf_12 : decode cX9_twoOf 12 = .ok (.bipush (-3), 2) := by decide +kernel
theorem dX9_twoOf_14 : decode cX9_twoOf 14 = .ok (.invokestatic 251, 3) := by decide +kernel
theorem dX9_twoOf_17 : decode cX9_twoOf 17 = .ok (.lreturn, 1) := by decide +kernel
theorem dX9_twoOf_18 : decode cX9_twoOf 18 = .ok (.aload_n 0, 1) := by decide +kernel
theorem dX9_twoOf_19 : decode cX9_twoOf 19 = .ok (.iconst 0, 1) := by decide +kernel
theorem dX9_twoOf_20 : decode cX9_twoOf 20 = .ok (.putfield 180, 3) := by decide +kernel
theorem dX9_twoOf_23 : decode cX9_twoOf 23 = .ok (.aload_n 0, 1) := by decide +kernel
theorem dX9_twoOf_24 : decode cX9_twoOf 24 = .ok (.aload_n 0, 1) := by decide +kernel
theorem dX9_twoOf_25 : decode cX9_twoOf 25 = .ok (.getfield 129, 3) := by decide +kernel
theorem dX9_twoOf_28 : decode cX9_twoOf 28 = .ok (.invokevirtual 221, 3) := by decide +kernel
theorem dX9_twoOf_31 : decode cX9_twoOf 31 = .ok (.aload_n 0, 1) := by decide +kernel
theorem dX9_twoOf_32 : decode cX9_twoOf 32 = .ok (.getfield 129, 3) := by decide +kernel
theorem dX9_twoOf_35 : decode cX9_twoOf 35 = .ok (.invokestatic 226, 3) := by decide +kernel
theorem dX9_twoOf_38 : decode cX9_twoOf 38 = .ok (.aload_n 0, 1) := by decide +kernel
theorem dX9_twoOf_39 : decode cX9_twoOf 39 = .ok (.iconst 0, 1) := by decide +kernel
theorem dX9_twoOf_40 : decode cX9_twoOf 40 = .ok (.invokevirtual 237, 3) := by decide +kernel
theorem dX9_twoOf_43 : decode cX9_twoOf 43 = .ok (.lsub, 1) := by decide +kernel
theorem dX9_twoOf_44 : decode cX9_twoOf 44 = .ok (.lstore_n 2, 1) := by decide +kernel
theorem dX9_twoOf_45 : decode cX9_twoOf 45 = .ok (.aload_n 0, 1) := by decide +kernel
theorem dX9_twoOf_46 : decode cX9_twoOf 46 = .ok (.iconst 1, 1) := by decide +kernel
theorem dX9_twoOf_47 : decode cX9_twoOf 47 = .ok (.putfield 180, 3) := by decide +kernel
theorem dX9_twoOf_50 : decode cX9_twoOf 50 = .ok (.aload_n 0, 1) := by decide +kernel
theorem dX9_twoOf_51 : decode cX9_twoOf 51 = .ok (.aload_n 0, 1) := by decide +kernel
theorem dX9_twoOf_52 : decode cX9_twoOf 52 = .ok (.getfield 129, 3) := by decide +kernel
theorem dX9_twoOf_55 : decode cX9_twoOf 55 = .ok (.invokevirtual 221, 3) := by decide +kernel
theorem dX9_twoOf_58 : decode cX9_twoOf 58 = .ok (.aload_n 0, 1) := by decide +kernel
theorem dX9_twoOf_59 : decode cX9_twoOf 59 = .ok (.iconst 0, 1) := by decide +kernel
theorem dX9_twoOf_60 : decode cX9_twoOf 60 = .ok (.invokevirtual 237, 3) := by decide +kernel
theorem dX9_twoOf_63 : decode cX9_twoOf 63 = .ok (.lstore 4, 2) := by decide +kernel
theorem dX9_twoOf_65 : decode cX9_twoOf 65 = .ok (.lload_n 2, 1) := by decide +kernel
theorem dX9_twoOf_66 : decode cX9_twoOf 66 = .ok (.lload 4, 2) := by decide +kernel
theorem dX9_twoOf_68 : decode cX9_twoOf 68 = .ok (.ladd, 1) := by decide +kernel
theorem dX9_twoOf_69 : decode cX9_twoOf 69 = .ok (.lconst 0, 1) := by decide +kernel
theorem dX9_twoOf_70 : decode cX9_twoOf 70 = .ok (.lcmp, 1) := by decide +kernel
theorem dX9_twoOf_71 : decode cX9_twoOf 71 = .ok (.ifCond .ne 11, 3) := by decide +kernel
theorem dX9_twoOf_74 : decode cX9_twoOf 74 = .ok (.bipush (-3), 2) := by decide +kernel
theorem dX9_twoOf_76 : decode cX9_twoOf 76 = .ok (.invokestatic 251, 3) := by decide +kernel
theorem dX9_twoOf_79 : decode cX9_twoOf 79 = .ok (.goto 13, 3) := by decide +kernel
theorem dX9_twoOf_82 : decode cX9_twoOf 82 = .ok (.lload 4, 2) := by decide +kernel
theorem dX9_twoOf_84 : decode cX9_twoOf 84 = .ok (.lload_n 2, 1) := by decide +kernel
theorem dX9_twoOf_85 : decode cX9_twoOf 85 = .ok (.lload 4, 2) := by decide +kernel
theorem dX9_twoOf_87 : decode cX9_twoOf 87 = .ok (.ladd, 1) := by decide +kernel
theorem dX9_twoOf_88 : decode cX9_twoOf 88 = .ok (.iload_n 1, 1) := by decide +kernel
theorem dX9_twoOf_89 : decode cX9_twoOf 89 = .ok (.invokestatic 240, 3) := by decide +kernel
theorem dX9_twoOf_92 : decode cX9_twoOf 92 = .ok (.lreturn, 1) := by decide +kernel
theorem dX9_two_0 : decode cX9_two 0 = .ok (.iload_n 1, 1) := by decide +kernel
theorem dX9_two_1 : decode cX9_two 1 = .ok (.invokestatic 244, 3) := by decide +kernel
theorem dX9_two_4 : decode cX9_two 4 = .ok (.ifCond .eq 11, 3) := by decide +kernel
theorem dX9_two_7 : decode cX9_two 7 = .ok (.aload_n 0, 1) := by decide +kernel
theorem dX9_two_8 : decode cX9_two 8 = .ok (.iload_n 1, 1) := by decide +kernel
theorem dX9_two_9 : decode cX9_two 9 = .ok (.invokevirtual 314, 3) := by decide +kernel
theorem dX9_two_12 : decode cX9_two 12 = .ok (.goto 8, 3) := by decide +kernel
theorem dX9_two_15 : decode cX9_two 15 = .ok (.bipush (-2), 2) := by decide +kernel
theorem dX9_two_17 : decode cX9_two 17 = .ok (.invokestatic 251, 3) := by decide +kernel
theorem dX9_two_20 : decode cX9_two 20 = .ok (.lreturn, 1) := by decide +kernel
theorem dX9_lot_0 : decode cX9_lot 0 = .ok (.aload_n 0, 1) := by decide +kernel
theorem dX9_lot_1 : decode cX9_lot 1 = .ok (.ldc_w 317, 3) := by decide +kernel
theorem dX9_lot_4 : decode cX9_lot 4 = .ok (.aload_n 0, 1) := by decide +kernel
theorem dX9_lot_5 : decode cX9_lot 5 = .ok (.getfield 318, 3) := by decide +kernel
theorem dX9_lot_8 : decode cX9_lot 8 = .ok (.imul, 1) := by decide +kernel
theorem dX9_lot_9 : decode cX9_lot 9 = .ok (.sipush 12345, 3) := by decide +kernel
theorem dX9_lot_12 : decode cX9_lot 12 = .ok (.iadd, 1) := by decide +kernel
theorem dX9_lot_13 : decode cX9_lot 13 = .ok (.putfield 318, 3) := by decide +kernel
theorem dX9_lot_16 : decode cX9_lot 16 = .ok (.aload_n 0, 1) := by decide +kernel
theorem dX9_lot_17 : decode cX9_lot 17 = .ok (.getfield 318, 3) := by decide +kernel
theorem dX9_lot_20 : decode cX9_lot 20 = .ok (.bipush 16, 2) := by decide +kernel
theorem dX9_lot_22 : decode cX9_lot 22 = .ok (.iushr, 1) := by decide +kernel
theorem dX9_lot_23 : decode cX9_lot 23 = .ok (.iload_n 1, 1) := by decide +kernel
theorem dX9_lot_24 : decode cX9_lot 24 = .ok (.irem, 1) := by decide +kernel
theorem dX9_lot_25 : decode cX9_lot 25 = .ok (.ireturn, 1) := by decide +kernel
theorem dX9_evening_0 : decode cX9_evening 0 = .ok (.aload_n 0, 1) := by decide +kernel
theorem dX9_evening_1 : decode cX9_evening 1 = .ok (.getfield 180, 3) := by decide +kernel
theorem dX9_evening_4 : decode cX9_evening 4 = .ok (.istore_n 1, 1) := by decide +kernel
theorem dX9_evening_5 : decode cX9_evening 5 = .ok (.iconst 0, 1) := by decide +kernel
theorem dX9_evening_6 : decode cX9_evening 6 = .ok (.istore_n 2, 1) := by decide +kernel
theorem dX9_evening_7 : decode cX9_evening 7 = .ok (.iconst 0, 1) := by decide +kernel
theorem dX9_evening_8 : decode cX9_evening 8 = .ok (.istore_n 3, 1) := by decide +kernel
theorem dX9_evening_9 : decode cX9_evening 9 = .ok (.iload_n 3, 1) := by decide +kernel
theorem dX9_evening_10 : decode cX9_evening 10 = .ok (.aload_n 0, 1) := by decide +kernel
theorem dX9_evening_11 : decode cX9_evening 11 = .ok (.getfield 129, 3) := by decide +kernel
theorem dX9_evening_14 : decode cX9_evening 14 = .ok (.if_icmp .ge 212, 3) := by decide +kernel
theorem dX9_evening_17 : decode cX9_evening 17 = .ok (.iconst 0, 1) := by decide +kernel
theorem dX9_evening_18 : decode cX9_evening 18 = .ok (.istore 4, 2) := by decide +kernel
theorem dX9_evening_20 : decode cX9_evening 20 = .ok (.iconst 0, 1) := by decide +kernel
theorem dX9_evening_21 : decode cX9_evening 21 = .ok (.istore 5, 2) := by decide +kernel
theorem dX9_evening_23 : decode cX9_evening 23 = .ok (.iload 5, 2) := by decide +kernel
theorem dX9_evening_25 : decode cX9_evening 25 = .ok (.aload_n 0, 1) := by decide +kernel
theorem dX9_evening_26 : decode cX9_evening 26 = .ok (.getfield 126, 3) := by decide +kernel
theorem dX9_evening_29 : decode cX9_evening 29 = .ok (.if_icmp .ge 43, 3) := by decide +kernel
theorem dX9_evening_32 : decode cX9_evening 32 = .ok (.aload_n 0, 1) := by decide +kernel
theorem dX9_evening_33 : decode cX9_evening 33 = .ok (.iload 5, 2) := by decide +kernel
theorem dX9_evening_35 : decode cX9_evening 35 = .ok (.iload_n 3, 1) := by decide +kernel
theorem dX9_evening_36 : decode cX9_evening 36 = .ok (.invokevirtual 186, 3) := by decide +kernel
theorem dX9_evening_39 : decode cX9_evening 39 = .ok (.ifCond .eq 27, 3) := by decide +kernel
theorem dX9_evening_42 : decode cX9_evening 42 = .ok (.aload_n 0, 1) := by decide +kernel
theorem dX9_evening_43 : decode cX9_evening 43 = .ok (.iconst 4, 1) := by decide +kernel
theorem dX9_evening_44 : decode cX9_evening 44 = .ok (.invokevirtual 321, 3) := by decide +kernel
theorem dX9_evening_47 : decode cX9_evening 47 = .ok (.aload_n 0, 1) := by decide +kernel
theorem dX9_evening_48 : decode cX9_evening 48 = .ok (.iload 5, 2) := by decide +kernel
theorem dX9_evening_50 : decode cX9_evening 50 = .ok (.iload_n 3, 1) := by decide +kernel
theorem dX9_evening_51 : decode cX9_evening 51 = .ok (.invokevirtual 197, 3) := by decide +kernel
theorem dX9_evening_54 : decode cX9_evening 54 = .ok (.if_icmp .ge 12, 3) := by decide +kernel
theorem dX9_evening_57 : decode cX9_evening 57 = .ok (.iload 4, 2) := by decide +kernel
theorem dX9_evening_59 : decode cX9_evening 59 = .ok (.iconst 1, 1) := by decide +kernel
theorem dX9_evening_60 : decode cX9_evening 60 = .ok (.iload 5, 2) := by decide +kernel
theorem dX9_evening_62 : decode cX9_evening 62 = .ok (.ishl, 1) := by decide +kernel
theorem dX9_evening_63 : decode cX9_evening 63 = .ok (.ior, 1) := by decide +kernel
theorem dX9_evening_64 : decode cX9_evening 64 = .ok (.istore 4, 2) := by decide +kernel
theorem dX9_evening_66 : decode cX9_evening 66 = .ok (.iinc 5 1, 3) := by decide +kernel
theorem dX9_evening_69 : decode cX9_evening 69 = .ok (.goto (-46), 3) := by decide +kernel
theorem dX9_evening_72 : decode cX9_evening 72 = .ok (.iload 4, 2) := by decide +kernel
theorem dX9_evening_74 : decode cX9_evening 74 = .ok (.invokestatic 203, 3) := by decide +kernel
theorem dX9_evening_77 : decode cX9_evening 77 = .ok (.istore 5, 2) := by decide +kernel
theorem dX9_evening_79 : decode cX9_evening 79 = .ok (.iload 5, 2) := by decide +kernel
theorem dX9_evening_81 : decode cX9_evening 81 = .ok (.iconst 1, 1) := by decide +kernel
theorem dX9_evening_82 : decode cX9_evening 82 = .ok (.if_icmp .eq 16, 3) := by decide +kernel
theorem dX9_evening_85 : decode cX9_evening 85 = .ok (.iload 5, 2) := by decide +kernel
theorem dX9_evening_87 : decode cX9_evening 87 = .ok (.iconst 1, 1) := by decide +kernel
theorem dX9_evening_88 : decode cX9_evening 88 = .ok (.if_icmp .le 132, 3) := by decide +kernel
theorem dX9_evening_91 : decode cX9_evening 91 = .ok (.aload_n 0, 1) := by decide +kernel
theorem dX9_evening_92 : decode cX9_evening 92 = .ok (.getfield 177, 3) := by decide +kernel
theorem dX9_evening_95 : decode cX9_evening 95 = .ok (.ifCond .le 125, 3) := by decide +kernel
theorem dX9_evening_98 : decode cX9_evening 98 = .ok (.iload 5, 2) := by decide +kernel
theorem dX9_evening_100 : decode cX9_evening 100 = .ok (.iconst 1, 1) := by decide +kernel
theorem dX9_evening_101 : decode cX9_evening 101 = .ok (.if_icmp .le 20, 3) := by decide +kernel
theorem dX9_evening_104 : decode cX9_evening 104 = .ok (.aload_n 0, 1) := by decide +kernel
theorem dX9_evening_105 : decode cX9_evening 105 = .ok (.getfield 177, 3) := by decide +kernel
theorem dX9_evening_108 : decode cX9_evening 108 = .ok (.iconst 2, 1) := by decide +kernel
theorem dX9_evening_109 : decode cX9_evening 109 = .ok (.if_icmp .ne 12, 3) := by decide +kernel
theorem dX9_evening_112 : decode cX9_evening 112 = .ok (.aload_n 0, 1) := by decide +kernel
theorem dX9_evening_113 : decode cX9_evening 113 = .ok (.iload 5, 2) := by decide +kernel
theorem dX9_evening_115 : decode cX9_evening 115 = .ok (.invokevirtual 321, 3) := by decide +kernel
theorem dX9_evening_118 : decode cX9_evening 118 = .ok (.goto 4, 3) := by decide +kernel
theorem dX9_evening_121 : decode cX9_evening 121 = .ok (.iconst 0, 1) := by decide +kernel
theorem dX9_evening_122 : decode cX9_evening 122 = .ok (.istore 6, 2) := by decide +kernel
theorem dX9_evening_124 : decode cX9_evening 124 = .ok (.iconst (-1), 1) := by decide +kernel
theorem dX9_evening_125 : decode cX9_evening 125 = .ok (.istore 7, 2) := by decide +kernel
theorem dX9_evening_127 : decode cX9_evening 127 = .ok (.aload_n 0, 1) := by decide +kernel
theorem dX9_evening_128 : decode cX9_evening 128 = .ok (.getfield 126, 3) := by decide +kernel
theorem dX9_evening_131 : decode cX9_evening 131 = .ok (.iconst 1, 1) := by decide +kernel
theorem dX9_evening_132 : decode cX9_evening 132 = .ok (.isub, 1) := by decide +kernel
theorem dX9_evening_133 : decode cX9_evening 133 = .ok (.istore 8, 2) := by decide +kernel
theorem dX9_evening_135 : decode cX9_evening 135 = .ok (.iload 8, 2) := by decide +kernel
theorem dX9_evening_137 : decode cX9_evening 137 = .ok (.ifCond .lt 58, 3) := by decide +kernel
theorem dX9_evening_140 : decode cX9_evening 140 = .ok (.iload 4, 2) := by decide +kernel
theorem dX9_evening_142 : decode cX9_evening 142 = .ok (.iload 8, 2) := by decide +kernel
theorem dX9_evening_144 : decode cX9_evening 144 = .ok (.ishr, 1) := by decide +kernel
theorem dX9_evening_145 : decode cX9_evening 145 = .ok (.iconst 1, 1) := by decide +kernel
theorem dX9_evening_146 : decode cX9_evening 146 = .ok (.iand, 1) := by decide +kernel
theorem dX9_evening_147 : decode cX9_evening 147 = .ok (.iconst 1, 1) := by decide +kernel
theorem dX9_evening_148 : decode cX9_evening 148 = .ok (.if_icmp .ne 24, 3) := by decide +kernel
theorem dX9_evening_151 : decode cX9_evening 151 = .ok (.iload 4, 2) := by decide +kernel
theorem dX9_evening_153 : decode cX9_evening 153 = .ok (.iconst 1, 1) := by decide +kernel
theorem dX9_evening_154 : decode cX9_evening 154 = .ok (.iload 8, 2) := by decide +kernel
theorem dX9_evening_156 : decode cX9_evening 156 = .ok (.ishl, 1) := by decide +kernel
theorem dX9_evening_157 : decode cX9_evening 157 = .ok (.iconst 1, 1) := by decide +kernel
theorem dX9_evening_158 : decode cX9_evening 158 = .ok (.isub, 1) := by decide +kernel
theorem dX9_evening_159 : decode cX9_evening 159 = .ok (.iand, 1) := by decide +kernel
theorem dX9_evening_160 : decode cX9_evening 160 = .ok (.invokestatic 203, 3) := by decide +kernel
theorem dX9_evening_163 : decode cX9_evening 163 = .ok (.iload 6, 2) := by decide +kernel
theorem dX9_evening_165 : decode cX9_evening 165 = .ok (.if_icmp .ne 7, 3) := by decide +kernel
theorem dX9_evening_168 : decode cX9_evening 168 = .ok (.iconst 1, 1) := by decide +kernel
theorem dX9_evening_169 : decode cX9_evening 169 = .ok (.goto 4, 3) := by decide +kernel
theorem dX9_evening_172 : decode cX9_evening 172 = .ok (.iconst 0, 1) := by decide +kernel
theorem dX9_evening_173 : decode cX9_evening 173 = .ok (.istore 9, 2) := by decide +kernel
theorem dX9_evening_175 : decode cX9_evening 175 = .ok (.iload 9, 2) := by decide +kernel
theorem dX9_evening_177 : decode cX9_evening 177 = .ok (.ifCond .eq 8, 3) := by decide +kernel
theorem dX9_evening_180 : decode cX9_evening 180 = .ok (.iload 8, 2) := by decide +kernel
theorem dX9_evening_182 : decode cX9_evening 182 = .ok (.goto 5, 3) := by decide +kernel
theorem dX9_evening_185 : decode cX9_evening 185 = .ok (.iload 7, 2) := by decide +kernel
theorem dX9_evening_187 : decode cX9_evening 187 = .ok (.istore 7, 2) := by decide +kernel
theorem dX9_evening_189 : decode cX9_evening 189 = .ok (.iinc 8 (-1), 3) := by decide +kernel
theorem dX9_evening_192 : decode cX9_evening 192 = .ok (.goto (-57), 3) := by decide +kernel
theorem dX9_evening_195 : decode cX9_evening 195 = .ok (.iload_n 2, 1) := by decide +kernel
theorem dX9_evening_196 : decode cX9_evening 196 = .ok (.ifCond .eq 7, 3) := by decide +kernel
theorem dX9_evening_199 : decode cX9_evening 199 = .ok (.iload_n 1, 1) := by decide +kernel
theorem dX9_evening_200 : decode cX9_evening 200 = .ok (.goto 5, 3) := by decide +kernel
theorem dX9_evening_203 : decode cX9_evening 203 = .ok (.iload 7, 2) := by decide +kernel
theorem dX9_evening_205 : decode cX9_evening 205 = .ok (.istore_n 1, 1) := by decide +kernel
theorem dX9_evening_206 : decode cX9_evening 206 = .ok (.aload_n 0, 1) := by decide +kernel
theorem dX9_evening_207 : decode cX9_evening 207 = .ok (.getfield 174, 3) := by decide +kernel
theorem dX9_evening_210 : decode cX9_evening 210 = .ok (.iconst 1, 1) := by decide +kernel
theorem dX9_evening_211 : decode cX9_evening 211 = .ok (.if_icmp .ne 7, 3) := by decide +kernel
theorem dX9_evening_214 : decode cX9_evening 214 = .ok (.iconst 1, 1) := by decide +kernel
theorem dX9_evening_215 : decode cX9_evening 215 = .ok (.goto 4, 3) := by decide +kernel
theorem dX9_evening_218 : decode cX9_evening 218 = .ok (.iconst 0, 1) := by decide +kernel
theorem dX9_evening_219 : decode cX9_evening 219 = .ok (.istore_n 2, 1) := by decide +kernel
theorem dX9_evening_220 : decode cX9_evening 220 = .ok (.iinc 3 1, 3) := by decide +kernel
theorem dX9_evening_223 : decode cX9_evening 223 = .ok (.goto (-214), 3) := by decide +kernel
theorem dX9_evening_226 : decode cX9_evening 226 = .ok (.iload_n 1, 1) := by decide +kernel
theorem dX9_evening_227 : decode cX9_evening 227 = .ok (.ireturn, 1) := by decide +kernel
theorem dX9_made_0 : decode cX9_made 0 = .ok (.aload_n 0, 1) := by decide +kernel
theorem dX9_made_1 : decode cX9_made 1 = .ok (.invokevirtual 194, 3) := by decide +kernel
theorem dX9_made_4 : decode cX9_made 4 = .ok (.aload_n 0, 1) := by decide +kernel
theorem dX9_made_5 : decode cX9_made 5 = .ok (.getfield 126, 3) := by decide +kernel
theorem dX9_made_8 : decode cX9_made 8 = .ok (.ifCond .ne 6, 3) := by decide +kernel
theorem dX9_made_11 : decode cX9_made 11 = .ok (.bipush (-3), 2) := by decide +kernel
theorem dX9_made_13 : decode cX9_made 13 = .ok (.ireturn, 1) := by decide +kernel
theorem dX9_made_14 : decode cX9_made 14 = .ok (.aload_n 0, 1) := by decide +kernel
theorem dX9_made_15 : decode cX9_made 15 = .ok (.iload_n 1, 1) := by decide +kernel
theorem dX9_made_16 : decode cX9_made 16 = .ok (.putfield 318, 3) := by decide +kernel
theorem dX9_made_19 : decode cX9_made 19 = .ok (.aload_n 0, 1) := by decide +kernel
theorem dX9_made_20 : decode cX9_made 20 = .ok (.invokevirtual 324, 3) := by decide +kernel
theorem dX9_made_23 : decode cX9_made 23 = .ok (.ireturn, 1) := by decide +kernel
theorem dX9_eveningsOf_0 : decode cX9_eveningsOf 0 = .ok (.aload_n 0, 1) := by decide +kernel
theorem dX9_eveningsOf_1 : decode cX9_eveningsOf 1 = .ok (.invokevirtual 194, 3) := by decide +kernel
theorem dX9_eveningsOf_4 : decode cX9_eveningsOf 4 = .ok (.aload_n 0, 1) := by decide +kernel
theorem dX9_eveningsOf_5 : decode cX9_eveningsOf 5 = .ok (.iload_n 1, 1) := by decide +kernel
theorem dX9_eveningsOf_6 : decode cX9_eveningsOf 6 = .ok (.putfield 318, 3) := by decide +kernel
theorem dX9_eveningsOf_9 : decode cX9_eveningsOf 9 = .ok (.iconst 0, 1) := by decide +kernel
theorem dX9_eveningsOf_10 : decode cX9_eveningsOf 10 = .ok (.istore 4, 2) := by decide +kernel
theorem dX9_eveningsOf_12 : decode cX9_eveningsOf 12 = .ok (.iconst 0, 1) := by decide +kernel
theorem dX9_eveningsOf_13 : decode cX9_eveningsOf 13 = .ok (.istore 5, 2) := by decide +kernel
theorem dX9_eveningsOf_15 : decode cX9_eveningsOf 15 = .ok (.iload 5, 2) := by decide +kernel
theorem dX9_eveningsOf_17 : decode cX9_eveningsOf 17 = .ok (.iload_n 2, 1) := by decide +kernel
theorem dX9_eveningsOf_18 : decode cX9_eveningsOf 18 = .ok (.if_icmp .ge 27, 3) := by decide +kernel
theorem dX9_eveningsOf_21 : decode cX9_eveningsOf 21 = .ok (.iload 4, 2) := by decide +kernel
theorem dX9_eveningsOf_23 : decode cX9_eveningsOf 23 = .ok (.aload_n 0, 1) := by decide +kernel
theorem dX9_eveningsOf_24 : decode cX9_eveningsOf 24 = .ok (.invokevirtual 324, 3) := by decide +kernel
theorem dX9_eveningsOf_27 : decode cX9_eveningsOf 27 = .ok (.iload_n 3, 1) := by decide +kernel
theorem dX9_eveningsOf_28 : decode cX9_eveningsOf 28 = .ok (.if_icmp .ne 7, 3) := by decide +kernel
theorem dX9_eveningsOf_31 : decode cX9_eveningsOf 31 = .ok (.iconst 1, 1) := by decide +kernel
theorem dX9_eveningsOf_32 : decode cX9_eveningsOf 32 = .ok (.goto 4, 3) := by decide +kernel
theorem dX9_eveningsOf_35 : decode cX9_eveningsOf 35 = .ok (.iconst 0, 1) := by decide +kernel
theorem dX9_eveningsOf_36 : decode cX9_eveningsOf 36 = .ok (.iadd, 1) := by decide +kernel
theorem dX9_eveningsOf_37 : decode cX9_eveningsOf 37 = .ok (.istore 4, 2) := by decide +kernel
theorem dX9_eveningsOf_39 : decode cX9_eveningsOf 39 = .ok (.iinc 5 1, 3) := by decide +kernel
theorem dX9_eveningsOf_42 : decode cX9_eveningsOf 42 = .ok (.goto (-27), 3) := by decide +kernel
theorem dX9_eveningsOf_45 : decode cX9_eveningsOf 45 = .ok (.iload 4, 2) := by decide +kernel
theorem dX9_eveningsOf_47 : decode cX9_eveningsOf 47 = .ok (.ireturn, 1) := by decide +kernel
theorem dX9_evenings_0 : decode cX9_evenings 0 = .ok (.iload_n 2, 1) := by decide +kernel
theorem dX9_evenings_1 : decode cX9_evenings 1 = .ok (.i2l, 1) := by decide +kernel
theorem dX9_evenings_2 : decode cX9_evenings 2 = .ok (.lconst 1, 1) := by decide +kernel
theorem dX9_evenings_3 : decode cX9_evenings 3 = .ok (.ldc2_w 327, 3) := by decide +kernel
theorem dX9_evenings_6 : decode cX9_evenings 6 = .ok (.invokestatic 89, 3) := by decide +kernel
theorem dX9_evenings_9 : decode cX9_evenings 9 = .ok (.ifCond .eq 21, 3) := by decide +kernel
theorem dX9_evenings_12 : decode cX9_evenings 12 = .ok (.aload_n 0, 1) := by decide +kernel
theorem dX9_evenings_13 : decode cX9_evenings 13 = .ok (.iload_n 3, 1) := by decide +kernel
theorem dX9_evenings_14 : decode cX9_evenings 14 = .ok (.invokevirtual 158, 3) := by decide +kernel
theorem dX9_evenings_17 : decode cX9_evenings 17 = .ok (.ifCond .eq 13, 3) := by decide +kernel
theorem dX9_evenings_20 : decode cX9_evenings 20 = .ok (.aload_n 0, 1) := by decide +kernel
theorem dX9_evenings_21 : decode cX9_evenings 21 = .ok (.iload_n 1, 1) := by decide +kernel
theorem dX9_evenings_22 : decode cX9_evenings 22 = .ok (.iload_n 2, 1) := by decide +kernel
theorem dX9_evenings_23 : decode cX9_evenings 23 = .ok (.iload_n 3, 1) := by decide +kernel
theorem dX9_evenings_24 : decode cX9_evenings 24 = .ok (.invokevirtual 329, 3) := by decide +kernel
theorem dX9_evenings_27 : decode cX9_evenings 27 = .ok (.goto 5, 3) := by decide +kernel
theorem dX9_evenings_30 : decode cX9_evenings 30 = .ok (.bipush (-2), 2) := by decide +kernel
theorem dX9_evenings_32 : decode cX9_evenings 32 = .ok (.ireturn, 1) := by decide +kernel
theorem dX9_saw_0 : decode cX9_saw 0 = .ok (.iload_n 1, 1) := by decide +kernel
theorem dX9_saw_1 : decode cX9_saw 1 = .ok (.invokestatic 164, 3) := by decide +kernel
theorem dX9_saw_4 : decode cX9_saw 4 = .ok (.ifCond .eq 43, 3) := by decide +kernel
theorem dX9_saw_7 : decode cX9_saw 7 = .ok (.iload_n 2, 1) := by decide +kernel
theorem dX9_saw_8 : decode cX9_saw 8 = .ok (.i2l, 1) := by decide +kernel
theorem dX9_saw_9 : decode cX9_saw 9 = .ok (.lconst 0, 1) := by decide +kernel
theorem dX9_saw_10 : decode cX9_saw 10 = .ok (.ldc2_w 300, 3) := by decide +kernel
theorem dX9_saw_13 : decode cX9_saw 13 = .ok (.invokestatic 89, 3) := by decide +kernel
theorem dX9_saw_16 : decode cX9_saw 16 = .ok (.ifCond .eq 31, 3) := by decide +kernel
theorem dX9_saw_19 : decode cX9_saw 19 = .ok (.iload_n 3, 1) := by decide +kernel
theorem dX9_saw_20 : decode cX9_saw 20 = .ok (.i2l, 1) := by decide +kernel
theorem dX9_saw_21 : decode cX9_saw 21 = .ok (.lconst 0, 1) := by decide +kernel
theorem dX9_saw_22 : decode cX9_saw 22 = .ok (.ldc2_w 169, 3) := by decide +kernel
theorem dX9_saw_25 : decode cX9_saw 25 = .ok (.invokestatic 89, 3) := by decide +kernel
theorem dX9_saw_28 : decode cX9_saw 28 = .ok (.ifCond .eq 19, 3) := by decide +kernel
theorem dX9_saw_31 : decode cX9_saw 31 = .ok (.iload 4, 2) := by decide +kernel
theorem dX9_saw_33 : decode cX9_saw 33 = .ok (.invokestatic 244, 3) := by decide +kernel
theorem dX9_saw_36 : decode cX9_saw 36 = .ok (.ifCond .eq 11, 3) := by decide +kernel
theorem dX9_saw_39 : decode cX9_saw 39 = .ok (.iload 5, 2) := by decide +kernel
theorem dX9_saw_41 : decode cX9_saw 41 = .ok (.invokestatic 244, 3) := by decide +kernel
theorem dX9_saw_44 : decode cX9_saw 44 = .ok (.ifCond .ne 6, 3) := by decide +kernel
theorem dX9_saw_47 : decode cX9_saw 47 = .ok (.bipush (-2), 2) := by decide +kernel
theorem dX9_saw_49 : decode cX9_saw 49 = .ok (.ireturn, 1) := by decide +kernel
theorem dX9_saw_50 : decode cX9_saw 50 = .ok (.aload_n 0, 1) := by decide +kernel
theorem dX9_saw_51 : decode cX9_saw 51 = .ok (.getfield 332, 3) := by decide +kernel
theorem dX9_saw_54 : decode cX9_saw 54 = .ok (.bipush 60, 2) := by decide +kernel
theorem dX9_saw_56 : decode cX9_saw 56 = .ok (.if_icmp .ne 6, 3) := by decide +kernel
theorem dX9_saw_59 : decode cX9_saw 59 = .ok (.bipush (-4), 2) := by decide +kernel
theorem dX9_saw_61 : decode cX9_saw 61 = .ok (.ireturn, 1) := by decide +kernel
theorem dX9_saw_62 : decode cX9_saw 62 = .ok (.aload_n 0, 1) := by decide +kernel
theorem dX9_saw_63 : decode cX9_saw 63 = .ok (.getfield 68, 3) := by decide +kernel
theorem dX9_saw_66 : decode cX9_saw 66 = .ok (.aload_n 0, 1) := by decide +kernel
theorem dX9_saw_67 : decode cX9_saw 67 = .ok (.getfield 332, 3) := by decide +kernel
theorem dX9_saw_70 : decode cX9_saw 70 = .ok (.iload_n 1, 1) := by decide +kernel
theorem dX9_saw_71 : decode cX9_saw 71 = .ok (.iastore, 1) := by decide +kernel
theorem dX9_saw_72 : decode cX9_saw 72 = .ok (.aload_n 0, 1) := by decide +kernel
theorem dX9_saw_73 : decode cX9_saw 73 = .ok (.getfield 71, 3) := by decide +kernel
theorem dX9_saw_76 : decode cX9_saw 76 = .ok (.aload_n 0, 1) := by decide +kernel
theorem dX9_saw_77 : decode cX9_saw 77 = .ok (.getfield 332, 3) := by decide +kernel
theorem dX9_saw_80 : decode cX9_saw 80 = .ok (.iload_n 2, 1) := by decide +kernel
theorem dX9_saw_81 : decode cX9_saw 81 = .ok (.iastore, 1) := by decide +kernel
theorem dX9_saw_82 : decode cX9_saw 82 = .ok (.aload_n 0, 1) := by decide +kernel
theorem dX9_saw_83 : decode cX9_saw 83 = .ok (.getfield 74, 3) := by decide +kernel
theorem dX9_saw_86 : decode cX9_saw 86 = .ok (.aload_n 0, 1) := by decide +kernel
theorem dX9_saw_87 : decode cX9_saw 87 = .ok (.getfield 332, 3) := by decide +kernel
theorem dX9_saw_90 : decode cX9_saw 90 = .ok (.iload_n 3, 1) := by decide +kernel
theorem dX9_saw_91 : decode cX9_saw 91 = .ok (.iastore, 1) := by decide +kernel
theorem dX9_saw_92 : decode cX9_saw 92 = .ok (.aload_n 0, 1) := by decide +kernel
theorem dX9_saw_93 : decode cX9_saw 93 = .ok (.getfield 77, 3) := by decide +kernel
theorem dX9_saw_96 : decode cX9_saw 96 = .ok (.aload_n 0, 1) := by decide +kernel
theorem dX9_saw_97 : decode cX9_saw 97 = .ok (.getfield 332, 3) := by decide +kernel
theorem dX9_saw_100 : decode cX9_saw 100 = .ok (.iload 4, 2) := by decide +kernel
theorem dX9_saw_102 : decode cX9_saw 102 = .ok (.iconst 1, 1) := by decide +kernel
theorem dX9_saw_103 : decode cX9_saw 103 = .ok (.if_icmp .ne 7, 3) := by decide +kernel
theorem dX9_saw_106 : decode cX9_saw 106 = .ok (.iconst 1, 1) := by decide +kernel
theorem dX9_saw_107 : decode cX9_saw 107 = .ok (.goto 4, 3) := by decide +kernel
theorem dX9_saw_110 : decode cX9_saw 110 = .ok (.iconst 0, 1) := by decide +kernel
theorem dX9_saw_111 : decode cX9_saw 111 = .ok (.bastore, 1) := by decide +kernel
theorem dX9_saw_112 : decode cX9_saw 112 = .ok (.aload_n 0, 1) := by decide +kernel
theorem dX9_saw_113 : decode cX9_saw 113 = .ok (.getfield 81, 3) := by decide +kernel
theorem dX9_saw_116 : decode cX9_saw 116 = .ok (.aload_n 0, 1) := by decide +kernel
theorem dX9_saw_117 : decode cX9_saw 117 = .ok (.getfield 332, 3) := by decide +kernel
theorem dX9_saw_120 : decode cX9_saw 120 = .ok (.iload 5, 2) := by decide +kernel
theorem dX9_saw_122 : decode cX9_saw 122 = .ok (.iastore, 1) := by decide +kernel
theorem dX9_saw_123 : decode cX9_saw 123 = .ok (.aload_n 0, 1) := by decide +kernel
theorem dX9_saw_124 : decode cX9_saw 124 = .ok (.dup, 1) := by decide +kernel
theorem dX9_saw_125 : decode cX9_saw 125 = .ok (.getfield 332, 3) := by decide +kernel
theorem dX9_saw_128 : decode cX9_saw 128 = .ok (.iconst 1, 1) := by decide +kernel
theorem dX9_saw_129 : decode cX9_saw 129 = .ok (.iadd, 1) := by decide +kernel
theorem dX9_saw_130 : decode cX9_saw 130 = .ok (.putfield 332, 3) := by decide +kernel
theorem dX9_saw_133 : decode cX9_saw 133 = .ok (.aload_n 0, 1) := by decide +kernel
theorem dX9_saw_134 : decode cX9_saw 134 = .ok (.getfield 332, 3) := by decide +kernel
theorem dX9_saw_137 : decode cX9_saw 137 = .ok (.ireturn, 1) := by decide +kernel
theorem dX9_read_0 : decode cX9_read 0 = .ok (.iload_n 1, 1) := by decide +kernel
theorem dX9_read_1 : decode cX9_read 1 = .ok (.invokestatic 99, 3) := by decide +kernel
theorem dX9_read_4 : decode cX9_read 4 = .ok (.ifCond .eq 10, 3) := by decide +kernel
theorem dX9_read_7 : decode cX9_read 7 = .ok (.iload_n 2, 1) := by decide +kernel
theorem dX9_read_8 : decode cX9_read 8 = .ok (.invokestatic 164, 3) := by decide +kernel
theorem dX9_read_11 : decode cX9_read 11 = .ok (.ifCond .ne 6, 3) := by decide +kernel
theorem dX9_read_14 : decode cX9_read 14 = .ok (.bipush (-2), 2) := by decide +kernel
theorem dX9_read_16 : decode cX9_read 16 = .ok (.ireturn, 1) := by decide +kernel
theorem dX9_read_17 : decode cX9_read 17 = .ok (.aload_n 0, 1) := by decide +kernel
theorem dX9_read_18 : decode cX9_read 18 = .ok (.getfield 7, 3) := by decide +kernel
theorem dX9_read_21 : decode cX9_read 21 = .ok (.iload_n 1, 1) := by decide +kernel
theorem dX9_read_22 : decode cX9_read 22 = .ok (.iaload, 1) := by decide +kernel
theorem dX9_read_23 : decode cX9_read 23 = .ok (.ifCond .ge 9, 3) := by decide +kernel
theorem dX9_read_26 : decode cX9_read 26 = .ok (.aload_n 0, 1) := by decide +kernel
theorem dX9_read_27 : decode cX9_read 27 = .ok (.iconst 1, 1) := by decide +kernel
theorem dX9_read_28 : decode cX9_read 28 = .ok (.invokevirtual 105, 3) := by decide +kernel
theorem dX9_read_31 : decode cX9_read 31 = .ok (.ireturn, 1) := by decide +kernel
theorem dX9_read_32 : decode cX9_read 32 = .ok (.iconst 0, 1) := by decide +kernel
theorem dX9_read_33 : decode cX9_read 33 = .ok (.istore_n 3, 1) := by decide +kernel
theorem dX9_read_34 : decode cX9_read 34 = .ok (.iconst 1, 1) := by decide +kernel
theorem dX9_read_35 : decode cX9_read 35 = .ok (.istore 4, 2) := by decide +kernel
theorem dX9_read_37 : decode cX9_read 37 = .ok (.iload 4, 2) := by decide +kernel
theorem dX9_read_39 : decode cX9_read 39 = .ok (.ifCond .eq 84, 3) := by decide +kernel
theorem dX9_read_42 : decode cX9_read 42 = .ok (.iconst 3, 1) := by decide +kernel
theorem dX9_read_43 : decode cX9_read 43 = .ok (.iload_n 3, 1) := by decide +kernel
theorem dX9_read_44 : decode cX9_read 44 = .ok (.imul, 1) := by decide +kernel
theorem dX9_read_45 : decode cX9_read 45 = .ok (.iconst 3, 1) := by decide +kernel
theorem dX9_read_46 : decode cX9_read 46 = .ok (.iadd, 1) := by decide +kernel
theorem dX9_read_47 : decode cX9_read 47 = .ok (.aload_n 0, 1) := by decide +kernel
theorem dX9_read_48 : decode cX9_read 48 = .ok (.getfield 13, 3) := by decide +kernel
theorem dX9_read_51 : decode cX9_read 51 = .ok (.iload_n 1, 1) := by decide +kernel
theorem dX9_read_52 : decode cX9_read 52 = .ok (.iaload, 1) := by decide +kernel
theorem dX9_read_53 : decode cX9_read 53 = .ok (.if_icmp .gt 70, 3) := by decide +kernel
theorem dX9_read_56 : decode cX9_read 56 = .ok (.bipush 60, 2) := by decide +kernel
theorem dX9_read_58 : decode cX9_read 58 = .ok (.iload_n 1, 1) := by decide +kernel
theorem dX9_read_59 : decode cX9_read 59 = .ok (.imul, 1) := by decide +kernel
theorem dX9_read_60 : decode cX9_read 60 = .ok (.iconst 3, 1) := by decide +kernel
theorem dX9_read_61 : decode cX9_read 61 = .ok (.iload_n 3, 1) := by decide +kernel
theorem dX9_read_62 : decode cX9_read 62 = .ok (.imul, 1) := by decide +kernel
theorem dX9_read_63 : decode cX9_read 63 = .ok (.iadd, 1) := by decide +kernel
theorem dX9_read_64 : decode cX9_read 64 = .ok (.istore 5, 2) := by decide +kernel
theorem dX9_read_66 : decode cX9_read 66 = .ok (.aload_n 0, 1) := by decide +kernel
theorem dX9_read_67 : decode cX9_read 67 = .ok (.iload_n 2, 1) := by decide +kernel
theorem dX9_read_68 : decode cX9_read 68 = .ok (.aload_n 0, 1) := by decide +kernel
theorem dX9_read_69 : decode cX9_read 69 = .ok (.getfield 16, 3) := by decide +kernel
theorem dX9_read_72 : decode cX9_read 72 = .ok (.iload 5, 2) := by decide +kernel
theorem dX9_read_74 : decode cX9_read 74 = .ok (.iaload, 1) := by decide +kernel
theorem dX9_read_75 : decode cX9_read 75 = .ok (.aload_n 0, 1) := by decide +kernel
theorem dX9_read_76 : decode cX9_read 76 = .ok (.getfield 16, 3) := by decide +kernel
theorem dX9_read_79 : decode cX9_read 79 = .ok (.iload 5, 2) := by decide +kernel
theorem dX9_read_81 : decode cX9_read 81 = .ok (.iconst 1, 1) := by decide +kernel
theorem dX9_read_82 : decode cX9_read 82 = .ok (.iadd, 1) := by decide +kernel
theorem dX9_read_83 : decode cX9_read 83 = .ok (.iaload, 1) := by decide +kernel
theorem dX9_read_84 : decode cX9_read 84 = .ok (.iconst 0, 1) := by decide +kernel
theorem dX9_read_85 : decode cX9_read 85 = .ok (.aload_n 0, 1) := by decide +kernel
theorem dX9_read_86 : decode cX9_read 86 = .ok (.getfield 16, 3) := by decide +kernel
theorem dX9_read_89 : decode cX9_read 89 = .ok (.iload 5, 2) := by decide +kernel
theorem dX9_read_91 : decode cX9_read 91 = .ok (.iconst 2, 1) := by decide +kernel
theorem dX9_read_92 : decode cX9_read 92 = .ok (.iadd, 1) := by decide +kernel
theorem dX9_read_93 : decode cX9_read 93 = .ok (.iaload, 1) := by decide +kernel
theorem dX9_read_94 : decode cX9_read 94 = .ok (.invokevirtual 335, 3) := by decide +kernel
theorem dX9_read_97 : decode cX9_read 97 = .ok (.ifCond .lt 7, 3) := by decide +kernel
theorem dX9_read_100 : decode cX9_read 100 = .ok (.iconst 1, 1) := by decide +kernel
theorem dX9_read_101 : decode cX9_read 101 = .ok (.goto 4, 3) := by decide +kernel
theorem dX9_read_104 : decode cX9_read 104 = .ok (.iconst 0, 1) := by decide +kernel
theorem dX9_read_105 : decode cX9_read 105 = .ok (.istore 4, 2) := by decide +kernel
theorem dX9_read_107 : decode cX9_read 107 = .ok (.iload_n 3, 1) := by decide +kernel
theorem dX9_read_108 : decode cX9_read 108 = .ok (.iload 4, 2) := by decide +kernel
theorem dX9_read_110 : decode cX9_read 110 = .ok (.ifCond .eq 7, 3) := by decide +kernel
theorem dX9_read_113 : decode cX9_read 113 = .ok (.iconst 1, 1) := by decide +kernel
theorem dX9_read_114 : decode cX9_read 114 = .ok (.goto 4, 3) := by decide +kernel
theorem dX9_read_117 : decode cX9_read 117 = .ok (.iconst 0, 1) := by decide +kernel
theorem dX9_read_118 : decode cX9_read 118 = .ok (.iadd, 1) := by decide +kernel
theorem dX9_read_119 : decode cX9_read 119 = .ok (.istore_n 3, 1) := by decide +kernel
theorem dX9_read_120 : decode cX9_read 120 = .ok (.goto (-83), 3) := by decide +kernel
theorem dX9_read_123 : decode cX9_read 123 = .ok (.iload_n 3, 1) := by decide +kernel
theorem dX9_read_124 : decode cX9_read 124 = .ok (.ireturn, 1) := by decide +kernel
theorem dX9_isTicklish_0 : decode cX9_isTicklish 0 = .ok (.iload_n 0, 1) := by decide +kernel
theorem dX9_isTicklish_1 : decode cX9_isTicklish 1 = .ok (.i2l, 1) := by decide +kernel
theorem dX9_isTicklish_2 : decode cX9_isTicklish 2 = .ok (.lconst 0, 1) := by decide +kernel
theorem dX9_isTicklish_3 : decode cX9_isTicklish 3 = .ok (.ldc2_w 300, 3) := by decide +kernel
theorem dX9_isTicklish_6 : decode cX9_isTicklish 6 = .ok (.invokestatic 89, 3) := by decide +kernel
theorem dX9_isTicklish_9 : decode cX9_isTicklish 9 = .ok (.ireturn, 1) := by decide +kernel
theorem dX9_offOf_0 : decode cX9_offOf 0 = .ok (.iconst 0, 1) := by decide +kernel
theorem dX9_offOf_1 : decode cX9_offOf 1 = .ok (.istore_n 3, 1) := by decide +kernel
theorem dX9_offOf_2 : decode cX9_offOf 2 = .ok (.iconst 0, 1) := by decide +kernel
theorem dX9_offOf_3 : decode cX9_offOf 3 = .ok (.istore 4, 2) := by decide +kernel
theorem dX9_offOf_5 : decode cX9_offOf 5 = .ok (.iload 4, 2) := by decide +kernel
theorem dX9_offOf_7 : decode cX9_offOf 7 = .ok (.aload_n 0, 1) := by decide +kernel
theorem dX9_offOf_8 : decode cX9_offOf 8 = .ok (.getfield 332, 3) := by decide +kernel
theorem dX9_offOf_11 : decode cX9_offOf 11 = .ok (.if_icmp .ge 65, 3) := by decide +kernel
theorem dX9_offOf_14 : decode cX9_offOf 14 = .ok (.aload_n 0, 1) := by decide +kernel
theorem dX9_offOf_15 : decode cX9_offOf 15 = .ok (.getfield 68, 3) := by decide +kernel
theorem dX9_offOf_18 : decode cX9_offOf 18 = .ok (.iload 4, 2) := by decide +kernel
theorem dX9_offOf_20 : decode cX9_offOf 20 = .ok (.iaload, 1) := by decide +kernel
theorem dX9_offOf_21 : decode cX9_offOf 21 = .ok (.iload_n 1, 1) := by decide +kernel
theorem dX9_offOf_22 : decode cX9_offOf 22 = .ok (.if_icmp .ne 48, 3) := by decide +kernel
theorem dX9_offOf_25 : decode cX9_offOf 25 = .ok (.iconst 4, 1) := by decide +kernel
theorem dX9_offOf_26 : decode cX9_offOf 26 = .ok (.aload_n 0, 1) := by decide +kernel
theorem dX9_offOf_27 : decode cX9_offOf 27 = .ok (.getfield 81, 3) := by decide +kernel
theorem dX9_offOf_30 : decode cX9_offOf 30 = .ok (.iload 4, 2) := by decide +kernel
theorem dX9_offOf_32 : decode cX9_offOf 32 = .ok (.iaload, 1) := by decide +kernel
theorem dX9_offOf_33 : decode cX9_offOf 33 = .ok (.imul, 1) := by decide +kernel
theorem dX9_offOf_34 : decode cX9_offOf 34 = .ok (.iload_n 2, 1) := by decide +kernel
theorem dX9_offOf_35 : decode cX9_offOf 35 = .ok (.aload_n 0, 1) := by decide +kernel
theorem dX9_offOf_36 : decode cX9_offOf 36 = .ok (.getfield 71, 3) := by decide +kernel
theorem dX9_offOf_39 : decode cX9_offOf 39 = .ok (.iload 4, 2) := by decide +kernel
theorem dX9_offOf_41 : decode cX9_offOf 41 = .ok (.iaload, 1) := by decide +kernel
theorem dX9_offOf_42 : decode cX9_offOf 42 = .ok (.aload_n 0, 1) := by decide +kernel
theorem dX9_offOf_43 : decode cX9_offOf 43 = .ok (.getfield 74, 3) := by decide +kernel
theorem dX9_offOf_46 : decode cX9_offOf 46 = .ok (.iload 4, 2) := by decide +kernel
theorem dX9_offOf_48 : decode cX9_offOf 48 = .ok (.iaload, 1) := by decide +kernel
theorem dX9_offOf_49 : decode cX9_offOf 49 = .ok (.aload_n 0, 1) := by decide +kernel
theorem dX9_offOf_50 : decode cX9_offOf 50 = .ok (.getfield 77, 3) := by decide +kernel
theorem dX9_offOf_53 : decode cX9_offOf 53 = .ok (.iload 4, 2) := by decide +kernel
theorem dX9_offOf_55 : decode cX9_offOf 55 = .ok (.baload, 1) := by decide +kernel
theorem dX9_offOf_56 : decode cX9_offOf 56 = .ok (.invokestatic 190, 3) := by decide +kernel
theorem dX9_offOf_59 : decode cX9_offOf 59 = .ok (.isub, 1) := by decide +kernel
theorem dX9_offOf_60 : decode cX9_offOf 60 = .ok (.istore 5, 2) := by decide +kernel
theorem dX9_offOf_62 : decode cX9_offOf 62 = .ok (.iload_n 3, 1) := by decide +kernel
theorem dX9_offOf_63 : decode cX9_offOf 63 = .ok (.iload 5, 2) := by decide +kernel
theorem dX9_offOf_65 : decode cX9_offOf 65 = .ok (.iload 5, 2) := by decide +kernel
theorem dX9_offOf_67 : decode cX9_offOf 67 = .ok (.imul, 1) := by decide +kernel
theorem dX9_offOf_68 : decode cX9_offOf 68 = .ok (.iadd, 1) := by decide +kernel
theorem dX9_offOf_69 : decode cX9_offOf 69 = .ok (.istore_n 3, 1) := by decide +kernel
theorem dX9_offOf_70 : decode cX9_offOf 70 = .ok (.iinc 4 1, 3) := by decide +kernel
theorem dX9_offOf_73 : decode cX9_offOf 73 = .ok (.goto (-68), 3) := by decide +kernel
theorem dX9_offOf_76 : decode cX9_offOf 76 = .ok (.iload_n 3, 1) := by decide +kernel
theorem dX9_offOf_77 : decode cX9_offOf 77 = .ok (.ireturn, 1) := by decide +kernel
theorem dX9_off_0 : decode cX9_off 0 = .ok (.iload_n 1, 1) := by decide +kernel
theorem dX9_off_1 : decode cX9_off 1 = .ok (.invokestatic 164, 3) := by decide +kernel
theorem dX9_off_4 : decode cX9_off 4 = .ok (.ifCond .eq 19, 3) := by decide +kernel
theorem dX9_off_7 : decode cX9_off 7 = .ok (.iload_n 2, 1) := by decide +kernel
theorem dX9_off_8 : decode cX9_off 8 = .ok (.invokestatic 339, 3) := by decide +kernel
theorem dX9_off_11 : decode cX9_off 11 = .ok (.ifCond .eq 12, 3) := by decide +kernel
theorem dX9_off_14 : decode cX9_off 14 = .ok (.aload_n 0, 1) := by decide +kernel
theorem dX9_off_15 : decode cX9_off 15 = .ok (.iload_n 1, 1) := by decide +kernel
theorem dX9_off_16 : decode cX9_off 16 = .ok (.iload_n 2, 1) := by decide +kernel
theorem dX9_off_17 : decode cX9_off 17 = .ok (.invokevirtual 342, 3) := by decide +kernel
theorem dX9_off_20 : decode cX9_off 20 = .ok (.goto 5, 3) := by decide +kernel
theorem dX9_off_23 : decode cX9_off 23 = .ok (.bipush (-2), 2) := by decide +kernel
theorem dX9_off_25 : decode cX9_off 25 = .ok (.ireturn, 1) := by decide +kernel
theorem dX9_guessOf_0 : decode cX9_guessOf 0 = .ok (.iconst 0, 1) := by decide +kernel
theorem dX9_guessOf_1 : decode cX9_guessOf 1 = .ok (.istore_n 2, 1) := by decide +kernel
theorem dX9_guessOf_2 : decode cX9_guessOf 2 = .ok (.iconst 0, 1) := by decide +kernel
theorem dX9_guessOf_3 : decode cX9_guessOf 3 = .ok (.istore_n 3, 1) := by decide +kernel
theorem dX9_guessOf_4 : decode cX9_guessOf 4 = .ok (.iload_n 3, 1) := by decide +kernel
theorem dX9_guessOf_5 : decode cX9_guessOf 5 = .ok (.aload_n 0, 1) := by decide +kernel
theorem dX9_guessOf_6 : decode cX9_guessOf 6 = .ok (.getfield 332, 3) := by decide +kernel
theorem dX9_guessOf_9 : decode cX9_guessOf 9 = .ok (.if_icmp .ge 29, 3) := by decide +kernel
theorem dX9_guessOf_12 : decode cX9_guessOf 12 = .ok (.iload_n 2, 1) := by decide +kernel
theorem dX9_guessOf_13 : decode cX9_guessOf 13 = .ok (.ifCond .ne 13, 3) := by decide +kernel
theorem dX9_guessOf_16 : decode cX9_guessOf 16 = .ok (.aload_n 0, 1) := by decide +kernel
theorem dX9_guessOf_17 : decode cX9_guessOf 17 = .ok (.getfield 68, 3) := by decide +kernel
theorem dX9_guessOf_20 : decode cX9_guessOf 20 = .ok (.iload_n 3, 1) := by decide +kernel
theorem dX9_guessOf_21 : decode cX9_guessOf 21 = .ok (.iaload, 1) := by decide +kernel
theorem dX9_guessOf_22 : decode cX9_guessOf 22 = .ok (.iload_n 1, 1) := by decide +kernel
theorem dX9_guessOf_23 : decode cX9_guessOf 23 = .ok (.if_icmp .ne 7, 3) := by decide +kernel
theorem dX9_guessOf_26 : decode cX9_guessOf 26 = .ok (.iconst 1, 1) := by decide +kernel
theorem dX9_guessOf_27 : decode cX9_guessOf 27 = .ok (.goto 4, 3) := by decide +kernel
theorem dX9_guessOf_30 : decode cX9_guessOf 30 = .ok (.iconst 0, 1) := by decide +kernel
theorem dX9_guessOf_31 : decode cX9_guessOf 31 = .ok (.istore_n 2, 1) := by decide +kernel
theorem dX9_guessOf_32 : decode cX9_guessOf 32 = .ok (.iinc 3 1, 3) := by decide +kernel
theorem dX9_guessOf_35 : decode cX9_guessOf 35 = .ok (.goto (-31), 3) := by decide +kernel
theorem dX9_guessOf_38 : decode cX9_guessOf 38 = .ok (.iload_n 2, 1) := by decide +kernel
theorem dX9_guessOf_39 : decode cX9_guessOf 39 = .ok (.ifCond .ne 6, 3) := by decide +kernel
theorem dX9_guessOf_42 : decode cX9_guessOf 42 = .ok (.bipush (-3), 2) := by decide +kernel
theorem dX9_guessOf_44 : decode cX9_guessOf 44 = .ok (.ireturn, 1) := by decide +kernel
theorem dX9_guessOf_45 : decode cX9_guessOf 45 = .ok (.iconst 0, 1) := by decide +kernel
theorem dX9_guessOf_46 : decode cX9_guessOf 46 = .ok (.istore_n 3, 1) := by decide +kernel
theorem dX9_guessOf_47 : decode cX9_guessOf 47 = .ok (.iconst 1, 1) := by decide +kernel
theorem dX9_guessOf_48 : decode cX9_guessOf 48 = .ok (.istore 4, 2) := by decide +kernel
theorem dX9_guessOf_50 : decode cX9_guessOf 50 = .ok (.iload 4, 2) := by decide +kernel
theorem dX9_guessOf_52 : decode cX9_guessOf 52 = .ok (.bipush 10, 2) := by decide +kernel
theorem dX9_guessOf_54 : decode cX9_guessOf 54 = .ok (.if_icmp .ge 32, 3) := by decide +kernel
theorem dX9_guessOf_57 : decode cX9_guessOf 57 = .ok (.aload_n 0, 1) := by decide +kernel
theorem dX9_guessOf_58 : decode cX9_guessOf 58 = .ok (.iload_n 1, 1) := by decide +kernel
theorem dX9_guessOf_59 : decode cX9_guessOf 59 = .ok (.iload 4, 2) := by decide +kernel
theorem dX9_guessOf_61 : decode cX9_guessOf 61 = .ok (.invokevirtual 342, 3) := by decide +kernel
theorem dX9_guessOf_64 : decode cX9_guessOf 64 = .ok (.aload_n 0, 1) := by decide +kernel
theorem dX9_guessOf_65 : decode cX9_guessOf 65 = .ok (.iload_n 1, 1) := by decide +kernel
theorem dX9_guessOf_66 : decode cX9_guessOf 66 = .ok (.iload_n 3, 1) := by decide +kernel
theorem dX9_guessOf_67 : decode cX9_guessOf 67 = .ok (.invokevirtual 342, 3) := by decide +kernel
theorem dX9_guessOf_70 : decode cX9_guessOf 70 = .ok (.if_icmp .ge 8, 3) := by decide +kernel
theorem dX9_guessOf_73 : decode cX9_guessOf 73 = .ok (.iload 4, 2) := by decide +kernel
theorem dX9_guessOf_75 : decode cX9_guessOf 75 = .ok (.goto 4, 3) := by decide +kernel
theorem dX9_guessOf_78 : decode cX9_guessOf 78 = .ok (.iload_n 3, 1) := by decide +kernel
theorem dX9_guessOf_79 : decode cX9_guessOf 79 = .ok (.istore_n 3, 1) := by decide +kernel
theorem dX9_guessOf_80 : decode cX9_guessOf 80 = .ok (.iinc 4 1, 3) := by decide +kernel
theorem dX9_guessOf_83 : decode cX9_guessOf 83 = .ok (.goto (-33), 3) := by decide +kernel
theorem dX9_guessOf_86 : decode cX9_guessOf 86 = .ok (.iload_n 3, 1) := by decide +kernel
theorem dX9_guessOf_87 : decode cX9_guessOf 87 = .ok (.ireturn, 1) := by decide +kernel
theorem dX9_guess_0 : decode cX9_guess 0 = .ok (.iload_n 1, 1) := by decide +kernel
theorem dX9_guess_1 : decode cX9_guess 1 = .ok (.invokestatic 164, 3) := by decide +kernel
theorem dX9_guess_4 : decode cX9_guess 4 = .ok (.ifCond .eq 11, 3) := by decide +kernel
theorem dX9_guess_7 : decode cX9_guess 7 = .ok (.aload_n 0, 1) := by decide +kernel
theorem dX9_guess_8 : decode cX9_guess 8 = .ok (.iload_n 1, 1) := by decide +kernel
theorem dX9_guess_9 : decode cX9_guess 9 = .ok (.invokevirtual 345, 3) := by decide +kernel
theorem dX9_guess_12 : decode cX9_guess 12 = .ok (.goto 5, 3) := by decide +kernel
theorem dX9_guess_15 : decode cX9_guess 15 = .ok (.bipush (-2), 2) := by decide +kernel
theorem dX9_guess_17 : decode cX9_guess 17 = .ok (.ireturn, 1) := by decide +kernel
theorem dX9_laughs_0 : decode cX9_laughs 0 = .ok (.iload_n 1, 1) := by decide +kernel
theorem dX9_laughs_1 : decode cX9_laughs 1 = .ok (.invokestatic 164, 3) := by decide +kernel
theorem dX9_laughs_4 : decode cX9_laughs 4 = .ok (.ifCond .eq 22, 3) := by decide +kernel
theorem dX9_laughs_7 : decode cX9_laughs 7 = .ok (.iload_n 2, 1) := by decide +kernel
theorem dX9_laughs_8 : decode cX9_laughs 8 = .ok (.i2l, 1) := by decide +kernel
theorem dX9_laughs_9 : decode cX9_laughs 9 = .ok (.lconst 0, 1) := by decide +kernel
theorem dX9_laughs_10 : decode cX9_laughs 10 = .ok (.ldc2_w 300, 3) := by decide +kernel
theorem dX9_laughs_13 : decode cX9_laughs 13 = .ok (.invokestatic 89, 3) := by decide +kernel
theorem dX9_laughs_16 : decode cX9_laughs 16 = .ok (.ifCond .eq 10, 3) := by decide +kernel
theorem dX9_laughs_19 : decode cX9_laughs 19 = .ok (.iload_n 3, 1) := by decide +kernel
theorem dX9_laughs_20 : decode cX9_laughs 20 = .ok (.invokestatic 244, 3) := by decide +kernel
theorem dX9_laughs_23 : decode cX9_laughs 23 = .ok (.ifCond .ne 6, 3) := by decide +kernel
theorem dX9_laughs_26 : decode cX9_laughs 26 = .ok (.bipush (-2), 2) := by decide +kernel
theorem dX9_laughs_28 : decode cX9_laughs 28 = .ok (.ireturn, 1) := by decide +kernel
theorem dX9_laughs_29 : decode cX9_laughs 29 = .ok (.iconst 0, 1) := by decide +kernel
theorem dX9_laughs_30 : decode cX9_laughs 30 = .ok (.istore 4, 2) := by decide +kernel
theorem dX9_laughs_32 : decode cX9_laughs 32 = .ok (.iconst 0, 1) := by decide +kernel
theorem dX9_laughs_33 : decode cX9_laughs 33 = .ok (.istore 5, 2) := by decide +kernel
theorem dX9_laughs_35 : decode cX9_laughs 35 = .ok (.iload 5, 2) := by decide +kernel
theorem dX9_laughs_37 : decode cX9_laughs 37 = .ok (.aload_n 0, 1) := by decide +kernel
theorem dX9_laughs_38 : decode cX9_laughs 38 = .ok (.getfield 332, 3) := by decide +kernel
theorem dX9_laughs_41 : decode cX9_laughs 41 = .ok (.if_icmp .ge 55, 3) := by decide +kernel
theorem dX9_laughs_44 : decode cX9_laughs 44 = .ok (.iload 4, 2) := by decide +kernel
theorem dX9_laughs_46 : decode cX9_laughs 46 = .ok (.aload_n 0, 1) := by decide +kernel
theorem dX9_laughs_47 : decode cX9_laughs 47 = .ok (.getfield 68, 3) := by decide +kernel
theorem dX9_laughs_50 : decode cX9_laughs 50 = .ok (.iload 5, 2) := by decide +kernel
theorem dX9_laughs_52 : decode cX9_laughs 52 = .ok (.iaload, 1) := by decide +kernel
theorem dX9_laughs_53 : decode cX9_laughs 53 = .ok (.iload_n 1, 1) := by decide +kernel
theorem dX9_laughs_54 : decode cX9_laughs 54 = .ok (.if_icmp .ne 32, 3) := by decide +kernel
theorem dX9_laughs_57 : decode cX9_laughs 57 = .ok (.aload_n 0, 1) := by decide +kernel
theorem dX9_laughs_58 : decode cX9_laughs 58 = .ok (.getfield 71, 3) := by decide +kernel
theorem dX9_laughs_61 : decode cX9_laughs 61 = .ok (.iload 5, 2) := by decide +kernel
theorem dX9_laughs_63 : decode cX9_laughs 63 = .ok (.iaload, 1) := by decide +kernel
theorem dX9_laughs_64 : decode cX9_laughs 64 = .ok (.iload_n 2, 1) := by decide +kernel
theorem dX9_laughs_65 : decode cX9_laughs 65 = .ok (.if_icmp .ne 21, 3) := by decide +kernel
theorem dX9_laughs_68 : decode cX9_laughs 68 = .ok (.iload_n 3, 1) := by decide +kernel
theorem dX9_laughs_69 : decode cX9_laughs 69 = .ok (.ifCond .ne 7, 3) := by decide +kernel
theorem dX9_laughs_72 : decode cX9_laughs 72 = .ok (.iconst 1, 1) := by decide +kernel
theorem dX9_laughs_73 : decode cX9_laughs 73 = .ok (.goto 14, 3) := by decide +kernel
theorem dX9_laughs_76 : decode cX9_laughs 76 = .ok (.aload_n 0, 1) := by decide +kernel
theorem dX9_laughs_77 : decode cX9_laughs 77 = .ok (.getfield 81, 3) := by decide +kernel
theorem dX9_laughs_80 : decode cX9_laughs 80 = .ok (.iload 5, 2) := by decide +kernel
theorem dX9_laughs_82 : decode cX9_laughs 82 = .ok (.iaload, 1) := by decide +kernel
theorem dX9_laughs_83 : decode cX9_laughs 83 = .ok (.goto 4, 3) := by decide +kernel
theorem dX9_laughs_86 : decode cX9_laughs 86 = .ok (.iconst 0, 1) := by decide +kernel
theorem dX9_laughs_87 : decode cX9_laughs 87 = .ok (.iadd, 1) := by decide +kernel
theorem dX9_laughs_88 : decode cX9_laughs 88 = .ok (.istore 4, 2) := by decide +kernel
theorem dX9_laughs_90 : decode cX9_laughs 90 = .ok (.iinc 5 1, 3) := by decide +kernel
theorem dX9_laughs_93 : decode cX9_laughs 93 = .ok (.goto (-58), 3) := by decide +kernel
theorem dX9_laughs_96 : decode cX9_laughs 96 = .ok (.iload 4, 2) := by decide +kernel
theorem dX9_laughs_98 : decode cX9_laughs 98 = .ok (.ireturn, 1) := by decide +kernel
theorem dX9_write_0 : decode cX9_write 0 = .ok (.aload_n 0, 1) := by decide +kernel
theorem dX9_write_1 : decode cX9_write 1 = .ok (.iload_n 1, 1) := by decide +kernel
theorem dX9_write_2 : decode cX9_write 2 = .ok (.invokevirtual 158, 3) := by decide +kernel
theorem dX9_write_5 : decode cX9_write 5 = .ok (.ifCond .eq 10, 3) := by decide +kernel
theorem dX9_write_8 : decode cX9_write 8 = .ok (.iload_n 2, 1) := by decide +kernel
theorem dX9_write_9 : decode cX9_write 9 = .ok (.invokestatic 99, 3) := by decide +kernel
theorem dX9_write_12 : decode cX9_write 12 = .ok (.ifCond .ne 6, 3) := by decide +kernel
theorem dX9_write_15 : decode cX9_write 15 = .ok (.bipush (-2), 2) := by decide +kernel
theorem dX9_write_17 : decode cX9_write 17 = .ok (.ireturn, 1) := by decide +kernel
theorem dX9_write_18 : decode cX9_write 18 = .ok (.aload_n 0, 1) := by decide +kernel
theorem dX9_write_19 : decode cX9_write 19 = .ok (.getfield 7, 3) := by decide +kernel
theorem dX9_write_22 : decode cX9_write 22 = .ok (.iload_n 2, 1) := by decide +kernel
theorem dX9_write_23 : decode cX9_write 23 = .ok (.iaload, 1) := by decide +kernel
theorem dX9_write_24 : decode cX9_write 24 = .ok (.ifCond .ge 9, 3) := by decide +kernel
theorem dX9_write_27 : decode cX9_write 27 = .ok (.aload_n 0, 1) := by decide +kernel
theorem dX9_write_28 : decode cX9_write 28 = .ok (.iconst 1, 1) := by decide +kernel
theorem dX9_write_29 : decode cX9_write 29 = .ok (.invokevirtual 105, 3) := by decide +kernel
theorem dX9_write_32 : decode cX9_write 32 = .ok (.ireturn, 1) := by decide +kernel
theorem dX9_write_33 : decode cX9_write 33 = .ok (.aload_n 0, 1) := by decide +kernel
theorem dX9_write_34 : decode cX9_write 34 = .ok (.invokevirtual 194, 3) := by decide +kernel
theorem dX9_write_37 : decode cX9_write 37 = .ok (.aload_n 0, 1) := by decide +kernel
theorem dX9_write_38 : decode cX9_write 38 = .ok (.getfield 13, 3) := by decide +kernel
theorem dX9_write_41 : decode cX9_write 41 = .ok (.iload_n 2, 1) := by decide +kernel
theorem dX9_write_42 : decode cX9_write 42 = .ok (.iaload, 1) := by decide +kernel
theorem dX9_write_43 : decode cX9_write 43 = .ok (.aload_n 0, 1) := by decide +kernel
theorem dX9_write_44 : decode cX9_write 44 = .ok (.getfield 129, 3) := by decide +kernel
theorem dX9_write_47 : decode cX9_write 47 = .ok (.if_icmp .ge 12, 3) := by decide +kernel
theorem dX9_write_50 : decode cX9_write 50 = .ok (.aload_n 0, 1) := by decide +kernel
theorem dX9_write_51 : decode cX9_write 51 = .ok (.getfield 13, 3) := by decide +kernel
theorem dX9_write_54 : decode cX9_write 54 = .ok (.iload_n 2, 1) := by decide +kernel
theorem dX9_write_55 : decode cX9_write 55 = .ok (.iaload, 1) := by decide +kernel
theorem dX9_write_56 : decode cX9_write 56 = .ok (.goto 7, 3) := by decide +kernel
theorem dX9_write_59 : decode cX9_write 59 = .ok (.aload_n 0, 1) := by decide +kernel
theorem dX9_write_60 : decode cX9_write 60 = .ok (.getfield 129, 3) := by decide +kernel
theorem dX9_write_63 : decode cX9_write 63 = .ok (.istore_n 3, 1) := by decide +kernel
theorem dX9_write_64 : decode cX9_write 64 = .ok (.iconst 0, 1) := by decide +kernel
theorem dX9_write_65 : decode cX9_write 65 = .ok (.istore 4, 2) := by decide +kernel
theorem dX9_write_67 : decode cX9_write 67 = .ok (.iload 4, 2) := by decide +kernel
theorem dX9_write_69 : decode cX9_write 69 = .ok (.iload_n 3, 1) := by decide +kernel
theorem dX9_write_70 : decode cX9_write 70 = .ok (.if_icmp .ge 37, 3) := by decide +kernel
theorem dX9_write_73 : decode cX9_write 73 = .ok (.aload_n 0, 1) := by decide +kernel
theorem dX9_write_74 : decode cX9_write 74 = .ok (.getfield 16, 3) := by decide +kernel
theorem dX9_write_77 : decode cX9_write 77 = .ok (.bipush 60, 2) := by decide +kernel
theorem dX9_write_79 : decode cX9_write 79 = .ok (.iload_n 2, 1) := by decide +kernel
theorem dX9_write_80 : decode cX9_write 80 = .ok (.imul, 1) := by decide +kernel
theorem dX9_write_81 : decode cX9_write 81 = .ok (.iload 4, 2) := by decide +kernel
theorem dX9_write_83 : decode cX9_write 83 = .ok (.iadd, 1) := by decide +kernel
theorem dX9_write_84 : decode cX9_write 84 = .ok (.aload_n 0, 1) := by decide +kernel
theorem dX9_write_85 : decode cX9_write 85 = .ok (.getfield 7, 3) := by decide +kernel
theorem dX9_write_88 : decode cX9_write 88 = .ok (.iload_n 2, 1) := by decide +kernel
theorem dX9_write_89 : decode cX9_write 89 = .ok (.iaload, 1) := by decide +kernel
theorem dX9_write_90 : decode cX9_write 90 = .ok (.aload_n 0, 1) := by decide +kernel
theorem dX9_write_91 : decode cX9_write 91 = .ok (.iload_n 1, 1) := by decide +kernel
theorem dX9_write_92 : decode cX9_write 92 = .ok (.iload 4, 2) := by decide +kernel
theorem dX9_write_94 : decode cX9_write 94 = .ok (.invokevirtual 197, 3) := by decide +kernel
theorem dX9_write_97 : decode cX9_write 97 = .ok (.invokestatic 113, 3) := by decide +kernel
theorem dX9_write_100 : decode cX9_write 100 = .ok (.iastore, 1) := by decide +kernel
theorem dX9_write_101 : decode cX9_write 101 = .ok (.iinc 4 1, 3) := by decide +kernel
theorem dX9_write_104 : decode cX9_write 104 = .ok (.goto (-37), 3) := by decide +kernel
theorem dX9_write_107 : decode cX9_write 107 = .ok (.iload_n 3, 1) := by decide +kernel
theorem dX9_write_108 : decode cX9_write 108 = .ok (.ireturn, 1) := by decide +kernel
theorem dX9_count_0 : decode cX9_count 0 = .ok (.iconst 0, 1) := by decide +kernel
theorem dX9_count_1 : decode cX9_count 1 = .ok (.istore_n 2, 1) := by decide +kernel
theorem dX9_count_2 : decode cX9_count 2 = .ok (.aload_n 0, 1) := by decide +kernel
theorem dX9_count_3 : decode cX9_count 3 = .ok (.invokevirtual 155, 3) := by decide +kernel
theorem dX9_count_6 : decode cX9_count 6 = .ok (.pop, 1) := by decide +kernel
theorem dX9_count_7 : decode cX9_count 7 = .ok (.iload_n 1, 1) := by decide +kernel
theorem dX9_count_8 : decode cX9_count 8 = .ok (.tableswitch 167 0 8 #[52, 57, 62, 67, 94, 99, 126, 131, 162], 52) := by decide +kernel
theorem dX9_count_60 : decode cX9_count 60 = .ok (.aload_n 0, 1) := by decide +kernel
theorem dX9_count_61 : decode cX9_count 61 = .ok (.getfield 126, 3) := by decide +kernel
theorem dX9_count_64 : decode cX9_count 64 = .ok (.ireturn, 1) := by decide +kernel
theorem dX9_count_65 : decode cX9_count 65 = .ok (.aload_n 0, 1) := by decide +kernel
theorem dX9_count_66 : decode cX9_count 66 = .ok (.getfield 129, 3) := by decide +kernel
theorem dX9_count_69 : decode cX9_count 69 = .ok (.ireturn, 1) := by decide +kernel
theorem dX9_count_70 : decode cX9_count 70 = .ok (.aload_n 0, 1) := by decide +kernel
theorem dX9_count_71 : decode cX9_count 71 = .ok (.getfield 120, 3) := by decide +kernel
theorem dX9_count_74 : decode cX9_count 74 = .ok (.ireturn, 1) := by decide +kernel
theorem dX9_count_75 : decode cX9_count 75 = .ok (.iconst 0, 1) := by decide +kernel
theorem dX9_count_76 : decode cX9_count 76 = .ok (.istore_n 3, 1) := by decide +kernel
theorem dX9_count_77 : decode cX9_count 77 = .ok (.iload_n 3, 1) := by decide +kernel
theorem dX9_count_78 : decode cX9_count 78 = .ok (.aload_n 0, 1) := by decide +kernel
theorem dX9_count_79 : decode cX9_count 79 = .ok (.getfield 129, 3) := by decide +kernel
theorem dX9_count_82 : decode cX9_count 82 = .ok (.if_icmp .ge 18, 3) := by decide +kernel
theorem dX9_count_85 : decode cX9_count 85 = .ok (.iload_n 2, 1) := by decide +kernel
theorem dX9_count_86 : decode cX9_count 86 = .ok (.aload_n 0, 1) := by decide +kernel
theorem dX9_count_87 : decode cX9_count 87 = .ok (.getfield 28, 3) := by decide +kernel
theorem dX9_count_90 : decode cX9_count 90 = .ok (.iload_n 3, 1) := by decide +kernel
theorem dX9_count_91 : decode cX9_count 91 = .ok (.iaload, 1) := by decide +kernel
theorem dX9_count_92 : decode cX9_count 92 = .ok (.iadd, 1) := by decide +kernel
theorem dX9_count_93 : decode cX9_count 93 = .ok (.istore_n 2, 1) := by decide +kernel
theorem dX9_count_94 : decode cX9_count 94 = .ok (.iinc 3 1, 3) := by decide +kernel
theorem dX9_count_97 : decode cX9_count 97 = .ok (.goto (-20), 3) := by decide +kernel
theorem dX9_count_100 : decode cX9_count 100 = .ok (.iload_n 2, 1) := by decide +kernel
theorem dX9_count_101 : decode cX9_count 101 = .ok (.ireturn, 1) := by decide +kernel
theorem dX9_count_102 : decode cX9_count 102 = .ok (.aload_n 0, 1) := by decide +kernel
theorem dX9_count_103 : decode cX9_count 103 = .ok (.getfield 332, 3) := by decide +kernel
theorem dX9_count_106 : decode cX9_count 106 = .ok (.ireturn, 1) := by decide +kernel
theorem dX9_count_107 : decode cX9_count 107 = .ok (.iconst 0, 1) := by decide +kernel
theorem dX9_count_108 : decode cX9_count 108 = .ok (.istore_n 3, 1) := by decide +kernel
theorem dX9_count_109 : decode cX9_count 109 = .ok (.iload_n 3, 1) := by decide +kernel
theorem dX9_count_110 : decode cX9_count 110 = .ok (.aload_n 0, 1) := by decide +kernel
theorem dX9_count_111 : decode cX9_count 111 = .ok (.getfield 332, 3) := by decide +kernel
theorem dX9_count_114 : decode cX9_count 114 = .ok (.if_icmp .ge 18, 3) := by decide +kernel
theorem dX9_count_117 : decode cX9_count 117 = .ok (.iload_n 2, 1) := by decide +kernel
theorem dX9_count_118 : decode cX9_count 118 = .ok (.aload_n 0, 1) := by decide +kernel
theorem dX9_count_119 : decode cX9_count 119 = .ok (.getfield 81, 3) := by decide +kernel
theorem dX9_count_122 : decode cX9_count 122 = .ok (.iload_n 3, 1) := by decide +kernel
theorem dX9_count_123 : decode cX9_count 123 = .ok (.iaload, 1) := by decide +kernel
theorem dX9_count_124 : decode cX9_count 124 = .ok (.iadd, 1) := by decide +kernel
theorem dX9_count_125 : decode cX9_count 125 = .ok (.istore_n 2, 1) := by decide +kernel
theorem dX9_count_126 : decode cX9_count 126 = .ok (.iinc 3 1, 3) := by decide +kernel
theorem dX9_count_129 : decode cX9_count 129 = .ok (.goto (-20), 3) := by decide +kernel
theorem dX9_count_132 : decode cX9_count 132 = .ok (.iload_n 2, 1) := by decide +kernel
theorem dX9_count_133 : decode cX9_count 133 = .ok (.ireturn, 1) := by decide +kernel
theorem dX9_count_134 : decode cX9_count 134 = .ok (.aload_n 0, 1) := by decide +kernel
theorem dX9_count_135 : decode cX9_count 135 = .ok (.invokevirtual 308, 3) := by decide +kernel
theorem dX9_count_138 : decode cX9_count 138 = .ok (.ireturn, 1) := by decide +kernel
theorem dX9_count_139 : decode cX9_count 139 = .ok (.iconst 0, 1) := by decide +kernel
theorem dX9_count_140 : decode cX9_count 140 = .ok (.istore_n 3, 1) := by decide +kernel
theorem dX9_count_141 : decode cX9_count 141 = .ok (.iload_n 3, 1) := by decide +kernel
theorem dX9_count_142 : decode cX9_count 142 = .ok (.aload_n 0, 1) := by decide +kernel
theorem dX9_count_143 : decode cX9_count 143 = .ok (.getfield 126, 3) := by decide +kernel
theorem dX9_count_146 : decode cX9_count 146 = .ok (.if_icmp .ge 22, 3) := by decide +kernel
theorem dX9_count_149 : decode cX9_count 149 = .ok (.iload_n 2, 1) := by decide +kernel
theorem dX9_count_150 : decode cX9_count 150 = .ok (.aload_n 0, 1) := by decide +kernel
theorem dX9_count_151 : decode cX9_count 151 = .ok (.getfield 25, 3) := by decide +kernel
theorem dX9_count_154 : decode cX9_count 154 = .ok (.iconst 4, 1) := by decide +kernel
theorem dX9_count_155 : decode cX9_count 155 = .ok (.iload_n 3, 1) := by decide +kernel
theorem dX9_count_156 : decode cX9_count 156 = .ok (.imul, 1) := by decide +kernel
theorem dX9_count_157 : decode cX9_count 157 = .ok (.iconst 3, 1) := by decide +kernel
theorem dX9_count_158 : decode cX9_count 158 = .ok (.iadd, 1) := by decide +kernel
theorem dX9_count_159 : decode cX9_count 159 = .ok (.iaload, 1) := by decide +kernel
theorem dX9_count_160 : decode cX9_count 160 = .ok (.iadd, 1) := by decide +kernel
theorem dX9_count_161 : decode cX9_count 161 = .ok (.istore_n 2, 1) := by decide +kernel
theorem dX9_count_162 : decode cX9_count 162 = .ok (.iinc 3 1, 3) := by decide +kernel
theorem dX9_count_165 : decode cX9_count 165 = .ok (.goto (-24), 3) := by decide +kernel
theorem dX9_count_168 : decode cX9_count 168 = .ok (.iload_n 2, 1) := by decide +kernel
theorem dX9_count_169 : decode cX9_count 169 = .ok (.ireturn, 1) := by decide +kernel
theorem dX9_count_170 : decode cX9_count 170 = .ok (.aload_n 0, 1) := by decide +kernel
theorem dX9_count_171 : decode cX9_count 171 = .ok (.getfield 93, 3) := by decide +kernel
theorem dX9_count_174 : decode cX9_count 174 = .ok (.ireturn, 1) := by decide +kernel
theorem dX9_count_175 : decode cX9_count 175 = .ok (.bipush (-2), 2) := by decide +kernel
theorem dX9_count_177 : decode cX9_count 177 = .ok (.ireturn, 1) := by decide +kernel
theorem dX9_digest_0 : decode cX9_digest 0 = .ok (.ldc2_w 348, 3) := by decide +kernel
theorem dX9_digest_3 : decode cX9_digest 3 = .ok (.lstore_n 1, 1) := by decide +kernel
theorem dX9_digest_4 : decode cX9_digest 4 = .ok (.iconst 0, 1) := by decide +kernel
theorem dX9_digest_5 : decode cX9_digest 5 = .ok (.istore_n 3, 1) := by decide +kernel
theorem dX9_digest_6 : decode cX9_digest 6 = .ok (.iload_n 3, 1) := by decide +kernel
theorem dX9_digest_7 : decode cX9_digest 7 = .ok (.bipush 8, 2) := by decide +kernel
theorem dX9_digest_9 : decode cX9_digest 9 = .ok (.if_icmp .ge 22, 3) := by decide +kernel
theorem dX9_digest_12 : decode cX9_digest 12 = .ok (.ldc2_w 350, 3) := by decide +kernel
theorem dX9_digest_15 : decode cX9_digest 15 = .ok (.lload_n 1, 1) := by decide +kernel
theorem dX9_digest_16 : decode cX9_digest 16 = .ok (.lmul, 1) := by decide +kernel
theorem dX9_digest_17 : decode cX9_digest 17 = .ok (.aload_n 0, 1) := by decide +kernel
theorem dX9_digest_18 : decode cX9_digest 18 = .ok (.iload_n 3, 1) := by decide +kernel
theorem dX9_digest_19 : decode cX9_digest 19 = .ok (.invokevirtual 352, 3) := by decide +kernel
theorem dX9_digest_22 : decode cX9_digest 22 = .ok (.i2l, 1) := by decide +kernel
theorem dX9_digest_23 : decode cX9_digest 23 = .ok (.ladd, 1) := by decide +kernel
theorem dX9_digest_24 : decode cX9_digest 24 = .ok (.lstore_n 1, 1) := by decide +kernel
theorem dX9_digest_25 : decode cX9_digest 25 = .ok (.iinc 3 1, 3) := by decide +kernel
theorem dX9_digest_28 : decode cX9_digest 28 = .ok (.goto (-22), 3) := by decide +kernel
theorem dX9_digest_31 : decode cX9_digest 31 = .ok (.ldc2_w 350, 3) := by decide +kernel
theorem dX9_digest_34 : decode cX9_digest 34 = .ok (.lload_n 1, 1) := by decide +kernel
theorem dX9_digest_35 : decode cX9_digest 35 = .ok (.lmul, 1) := by decide +kernel
theorem dX9_digest_36 : decode cX9_digest 36 = .ok (.aload_n 0, 1) := by decide +kernel
theorem dX9_digest_37 : decode cX9_digest 37 = .ok (.invokevirtual 155, 3) := by decide +kernel
theorem dX9_digest_40 : decode cX9_digest 40 = .ok (.i2l, 1) := by decide +kernel
theorem dX9_digest_41 : decode cX9_digest 41 = .ok (.ladd, 1) := by decide +kernel
theorem dX9_digest_42 : decode cX9_digest 42 = .ok (.lstore_n 1, 1) := by decide +kernel
theorem dX9_digest_43 : decode cX9_digest 43 = .ok (.iconst 0, 1) := by decide +kernel
theorem dX9_digest_44 : decode cX9_digest 44 = .ok (.istore_n 3, 1) := by decide +kernel
theorem dX9_digest_45 : decode cX9_digest 45 = .ok (.iload_n 3, 1) := by decide +kernel
theorem dX9_digest_46 : decode cX9_digest 46 = .ok (.iconst 3, 1) := by decide +kernel
theorem dX9_digest_47 : decode cX9_digest 47 = .ok (.if_icmp .ge 22, 3) := by decide +kernel
theorem dX9_digest_50 : decode cX9_digest 50 = .ok (.ldc2_w 350, 3) := by decide +kernel
theorem dX9_digest_53 : decode cX9_digest 53 = .ok (.lload_n 1, 1) := by decide +kernel
theorem dX9_digest_54 : decode cX9_digest 54 = .ok (.lmul, 1) := by decide +kernel
theorem dX9_digest_55 : decode cX9_digest 55 = .ok (.aload_n 0, 1) := by decide +kernel
theorem dX9_digest_56 : decode cX9_digest 56 = .ok (.iload_n 3, 1) := by decide +kernel
theorem dX9_digest_57 : decode cX9_digest 57 = .ok (.invokevirtual 161, 3) := by decide +kernel
theorem dX9_digest_60 : decode cX9_digest 60 = .ok (.i2l, 1) := by decide +kernel
theorem dX9_digest_61 : decode cX9_digest 61 = .ok (.ladd, 1) := by decide +kernel
theorem dX9_digest_62 : decode cX9_digest 62 = .ok (.lstore_n 1, 1) := by decide +kernel
theorem dX9_digest_63 : decode cX9_digest 63 = .ok (.iinc 3 1, 3) := by decide +kernel
theorem dX9_digest_66 : decode cX9_digest 66 = .ok (.goto (-21), 3) := by decide +kernel
theorem dX9_digest_69 : decode cX9_digest 69 = .ok (.aload_n 0, 1) := by decide +kernel
theorem dX9_digest_70 : decode cX9_digest 70 = .ok (.invokevirtual 285, 3) := by decide +kernel
theorem dX9_digest_73 : decode cX9_digest 73 = .ok (.istore_n 3, 1) := by decide +kernel
theorem dX9_digest_74 : decode cX9_digest 74 = .ok (.iconst 0, 1) := by decide +kernel
theorem dX9_digest_75 : decode cX9_digest 75 = .ok (.istore 4, 2) := by decide +kernel
theorem dX9_digest_77 : decode cX9_digest 77 = .ok (.iload 4, 2) := by decide +kernel
theorem dX9_digest_79 : decode cX9_digest 79 = .ok (.aload_n 0, 1) := by decide +kernel
theorem dX9_digest_80 : decode cX9_digest 80 = .ok (.getfield 126, 3) := by decide +kernel
theorem dX9_digest_83 : decode cX9_digest 83 = .ok (.if_icmp .ge 43, 3) := by decide +kernel
theorem dX9_digest_86 : decode cX9_digest 86 = .ok (.aload_n 0, 1) := by decide +kernel
theorem dX9_digest_87 : decode cX9_digest 87 = .ok (.getfield 84, 3) := by decide +kernel
theorem dX9_digest_90 : decode cX9_digest 90 = .ok (.iconst 2, 1) := by decide +kernel
theorem dX9_digest_91 : decode cX9_digest 91 = .ok (.iload 4, 2) := by decide +kernel
theorem dX9_digest_93 : decode cX9_digest 93 = .ok (.imul, 1) := by decide +kernel
theorem dX9_digest_94 : decode cX9_digest 94 = .ok (.aload_n 0, 1) := by decide +kernel
theorem dX9_digest_95 : decode cX9_digest 95 = .ok (.getfield 40, 3) := by decide +kernel
theorem dX9_digest_98 : decode cX9_digest 98 = .ok (.iload 4, 2) := by decide +kernel
theorem dX9_digest_100 : decode cX9_digest 100 = .ok (.iaload, 1) := by decide +kernel
theorem dX9_digest_101 : decode cX9_digest 101 = .ok (.iastore, 1) := by decide +kernel
theorem dX9_digest_102 : decode cX9_digest 102 = .ok (.aload_n 0, 1) := by decide +kernel
theorem dX9_digest_103 : decode cX9_digest 103 = .ok (.getfield 84, 3) := by decide +kernel
theorem dX9_digest_106 : decode cX9_digest 106 = .ok (.iconst 2, 1) := by decide +kernel
theorem dX9_digest_107 : decode cX9_digest 107 = .ok (.iload 4, 2) := by decide +kernel
theorem dX9_digest_109 : decode cX9_digest 109 = .ok (.imul, 1) := by decide +kernel
theorem dX9_digest_110 : decode cX9_digest 110 = .ok (.iconst 1, 1) := by decide +kernel
theorem dX9_digest_111 : decode cX9_digest 111 = .ok (.iadd, 1) := by decide +kernel
theorem dX9_digest_112 : decode cX9_digest 112 = .ok (.aload_n 0, 1) := by decide +kernel
theorem dX9_digest_113 : decode cX9_digest 113 = .ok (.getfield 43, 3) := by decide +kernel
theorem dX9_digest_116 : decode cX9_digest 116 = .ok (.iload 4, 2) := by decide +kernel
theorem dX9_digest_118 : decode cX9_digest 118 = .ok (.iaload, 1) := by decide +kernel
theorem dX9_digest_119 : decode cX9_digest 119 = .ok (.iastore, 1) := by decide +kernel
theorem dX9_digest_120 : decode cX9_digest 120 = .ok (.iinc 4 1, 3) := by decide +kernel
theorem dX9_digest_123 : decode cX9_digest 123 = .ok (.goto (-46), 3) := by decide +kernel
theorem dX9_digest_126 : decode cX9_digest 126 = .ok (.iconst 0, 1) := by decide +kernel
theorem dX9_digest_127 : decode cX9_digest 127 = .ok (.istore 4, 2) := by decide +kernel
theorem dX9_digest_129 : decode cX9_digest 129 = .ok (.iload 4, 2) := by decide +kernel
theorem dX9_digest_131 : decode cX9_digest 131 = .ok (.aload_n 0, 1) := by decide +kernel
theorem dX9_digest_132 : decode cX9_digest 132 = .ok (.getfield 126, 3) := by decide +kernel
theorem dX9_digest_135 : decode cX9_digest 135 = .ok (.if_icmp .ge 344, 3) := by decide +kernel
theorem dX9_digest_138 : decode cX9_digest 138 = .ok (.iconst 0, 1) := by decide +kernel
theorem dX9_digest_139 : decode cX9_digest 139 = .ok (.istore 5, 2) := by decide +kernel
theorem dX9_digest_141 : decode cX9_digest 141 = .ok (.iload 5, 2) := by decide +kernel
theorem dX9_digest_143 : decode cX9_digest 143 = .ok (.aload_n 0, 1) := by decide +kernel
theorem dX9_digest_144 : decode cX9_digest 144 = .ok (.getfield 129, 3) := by decide +kernel
theorem dX9_digest_147 : decode cX9_digest 147 = .ok (.if_icmp .ge 25, 3) := by decide +kernel
theorem dX9_digest_150 : decode cX9_digest 150 = .ok (.ldc2_w 350, 3) := by decide +kernel
theorem dX9_digest_153 : decode cX9_digest 153 = .ok (.lload_n 1, 1) := by decide +kernel
theorem dX9_digest_154 : decode cX9_digest 154 = .ok (.lmul, 1) := by decide +kernel
theorem dX9_digest_155 : decode cX9_digest 155 = .ok (.aload_n 0, 1) := by decide +kernel
theorem dX9_digest_156 : decode cX9_digest 156 = .ok (.iload 4, 2) := by decide +kernel
theorem dX9_digest_158 : decode cX9_digest 158 = .ok (.iload 5, 2) := by decide +kernel
theorem dX9_digest_160 : decode cX9_digest 160 = .ok (.invokevirtual 200, 3) := by decide +kernel
theorem dX9_digest_163 : decode cX9_digest 163 = .ok (.i2l, 1) := by decide +kernel
theorem dX9_digest_164 : decode cX9_digest 164 = .ok (.ladd, 1) := by decide +kernel
theorem dX9_digest_165 : decode cX9_digest 165 = .ok (.lstore_n 1, 1) := by decide +kernel
theorem dX9_digest_166 : decode cX9_digest 166 = .ok (.iinc 5 1, 3) := by decide +kernel
theorem dX9_digest_169 : decode cX9_digest 169 = .ok (.goto (-28), 3) := by decide +kernel
theorem dX9_digest_172 : decode cX9_digest 172 = .ok (.iconst 0, 1) := by decide +kernel
theorem dX9_digest_173 : decode cX9_digest 173 = .ok (.istore 5, 2) := by decide +kernel
theorem dX9_digest_175 : decode cX9_digest 175 = .ok (.iload 5, 2) := by decide +kernel
theorem dX9_digest_177 : decode cX9_digest 177 = .ok (.iconst 2, 1) := by decide +kernel
theorem dX9_digest_178 : decode cX9_digest 178 = .ok (.if_icmp .ge 28, 3) := by decide +kernel
theorem dX9_digest_181 : decode cX9_digest 181 = .ok (.ldc2_w 350, 3) := by decide +kernel
theorem dX9_digest_184 : decode cX9_digest 184 = .ok (.lload_n 1, 1) := by decide +kernel
theorem dX9_digest_185 : decode cX9_digest 185 = .ok (.lmul, 1) := by decide +kernel
theorem dX9_digest_186 : decode cX9_digest 186 = .ok (.aload_n 0, 1) := by decide +kernel
theorem dX9_digest_187 : decode cX9_digest 187 = .ok (.iload 4, 2) := by decide +kernel
theorem dX9_digest_189 : decode cX9_digest 189 = .ok (.aload_n 0, 1) := by decide +kernel
theorem dX9_digest_190 : decode cX9_digest 190 = .ok (.getfield 129, 3) := by decide +kernel
theorem dX9_digest_193 : decode cX9_digest 193 = .ok (.iload 5, 2) := by decide +kernel
theorem dX9_digest_195 : decode cX9_digest 195 = .ok (.invokevirtual 247, 3) := by decide +kernel
theorem dX9_digest_198 : decode cX9_digest 198 = .ok (.ladd, 1) := by decide +kernel
theorem dX9_digest_199 : decode cX9_digest 199 = .ok (.lstore_n 1, 1) := by decide +kernel
theorem dX9_digest_200 : decode cX9_digest 200 = .ok (.iinc 5 1, 3) := by decide +kernel
theorem dX9_digest_203 : decode cX9_digest 203 = .ok (.goto (-28), 3) := by decide +kernel
theorem dX9_digest_206 : decode cX9_digest 206 = .ok (.iconst 0, 1) := by decide +kernel
theorem dX9_digest_207 : decode cX9_digest 207 = .ok (.istore 5, 2) := by decide +kernel
theorem dX9_digest_209 : decode cX9_digest 209 = .ok (.iload 5, 2) := by decide +kernel
theorem dX9_digest_211 : decode cX9_digest 211 = .ok (.iconst 2, 1) := by decide +kernel
theorem dX9_digest_212 : decode cX9_digest 212 = .ok (.if_icmp .ge 24, 3) := by decide +kernel
theorem dX9_digest_215 : decode cX9_digest 215 = .ok (.ldc2_w 350, 3) := by decide +kernel
theorem dX9_digest_218 : decode cX9_digest 218 = .ok (.lload_n 1, 1) := by decide +kernel
theorem dX9_digest_219 : decode cX9_digest 219 = .ok (.lmul, 1) := by decide +kernel
theorem dX9_digest_220 : decode cX9_digest 220 = .ok (.aload_n 0, 1) := by decide +kernel
theorem dX9_digest_221 : decode cX9_digest 221 = .ok (.iload 4, 2) := by decide +kernel
theorem dX9_digest_223 : decode cX9_digest 223 = .ok (.iload 5, 2) := by decide +kernel
theorem dX9_digest_225 : decode cX9_digest 225 = .ok (.invokevirtual 254, 3) := by decide +kernel
theorem dX9_digest_228 : decode cX9_digest 228 = .ok (.ladd, 1) := by decide +kernel
theorem dX9_digest_229 : decode cX9_digest 229 = .ok (.lstore_n 1, 1) := by decide +kernel
theorem dX9_digest_230 : decode cX9_digest 230 = .ok (.iinc 5 1, 3) := by decide +kernel
theorem dX9_digest_233 : decode cX9_digest 233 = .ok (.goto (-24), 3) := by decide +kernel
theorem dX9_digest_236 : decode cX9_digest 236 = .ok (.iconst 0, 1) := by decide +kernel
theorem dX9_digest_237 : decode cX9_digest 237 = .ok (.istore 5, 2) := by decide +kernel
theorem dX9_digest_239 : decode cX9_digest 239 = .ok (.iload 5, 2) := by decide +kernel
theorem dX9_digest_241 : decode cX9_digest 241 = .ok (.iconst 2, 1) := by decide +kernel
theorem dX9_digest_242 : decode cX9_digest 242 = .ok (.if_icmp .ge 24, 3) := by decide +kernel
theorem dX9_digest_245 : decode cX9_digest 245 = .ok (.ldc2_w 350, 3) := by decide +kernel
theorem dX9_digest_248 : decode cX9_digest 248 = .ok (.lload_n 1, 1) := by decide +kernel
theorem dX9_digest_249 : decode cX9_digest 249 = .ok (.lmul, 1) := by decide +kernel
theorem dX9_digest_250 : decode cX9_digest 250 = .ok (.aload_n 0, 1) := by decide +kernel
theorem dX9_digest_251 : decode cX9_digest 251 = .ok (.iload 4, 2) := by decide +kernel
theorem dX9_digest_253 : decode cX9_digest 253 = .ok (.iload 5, 2) := by decide +kernel
theorem dX9_digest_255 : decode cX9_digest 255 = .ok (.invokevirtual 261, 3) := by decide +kernel
theorem dX9_digest_258 : decode cX9_digest 258 = .ok (.ladd, 1) := by decide +kernel
theorem dX9_digest_259 : decode cX9_digest 259 = .ok (.lstore_n 1, 1) := by decide +kernel
theorem dX9_digest_260 : decode cX9_digest 260 = .ok (.iinc 5 1, 3) := by decide +kernel
theorem dX9_digest_263 : decode cX9_digest 263 = .ok (.goto (-24), 3) := by decide +kernel
theorem dX9_digest_266 : decode cX9_digest 266 = .ok (.ldc2_w 350, 3) := by decide +kernel
theorem dX9_digest_269 : decode cX9_digest 269 = .ok (.lload_n 1, 1) := by decide +kernel
theorem dX9_digest_270 : decode cX9_digest 270 = .ok (.lmul, 1) := by decide +kernel
theorem dX9_digest_271 : decode cX9_digest 271 = .ok (.aload_n 0, 1) := by decide +kernel
theorem dX9_digest_272 : decode cX9_digest 272 = .ok (.iload 4, 2) := by decide +kernel
theorem dX9_digest_274 : decode cX9_digest 274 = .ok (.iconst 2, 1) := by decide +kernel
theorem dX9_digest_275 : decode cX9_digest 275 = .ok (.invokevirtual 279, 3) := by decide +kernel
theorem dX9_digest_278 : decode cX9_digest 278 = .ok (.ladd, 1) := by decide +kernel
theorem dX9_digest_279 : decode cX9_digest 279 = .ok (.lstore_n 1, 1) := by decide +kernel
theorem dX9_digest_280 : decode cX9_digest 280 = .ok (.ldc2_w 350, 3) := by decide +kernel
theorem dX9_digest_283 : decode cX9_digest 283 = .ok (.lload_n 1, 1) := by decide +kernel
theorem dX9_digest_284 : decode cX9_digest 284 = .ok (.lmul, 1) := by decide +kernel
theorem dX9_digest_285 : decode cX9_digest 285 = .ok (.aload_n 0, 1) := by decide +kernel
theorem dX9_digest_286 : decode cX9_digest 286 = .ok (.iload 4, 2) := by decide +kernel
theorem dX9_digest_288 : decode cX9_digest 288 = .ok (.iconst 3, 1) := by decide +kernel
theorem dX9_digest_289 : decode cX9_digest 289 = .ok (.invokevirtual 279, 3) := by decide +kernel
theorem dX9_digest_292 : decode cX9_digest 292 = .ok (.ladd, 1) := by decide +kernel
theorem dX9_digest_293 : decode cX9_digest 293 = .ok (.lstore_n 1, 1) := by decide +kernel
theorem dX9_digest_294 : decode cX9_digest 294 = .ok (.ldc2_w 350, 3) := by decide +kernel
theorem dX9_digest_297 : decode cX9_digest 297 = .ok (.lload_n 1, 1) := by decide +kernel
theorem dX9_digest_298 : decode cX9_digest 298 = .ok (.lmul, 1) := by decide +kernel
theorem dX9_digest_299 : decode cX9_digest 299 = .ok (.aload_n 0, 1) := by decide +kernel
theorem dX9_digest_300 : decode cX9_digest 300 = .ok (.getfield 84, 3) := by decide +kernel
theorem dX9_digest_303 : decode cX9_digest 303 = .ok (.iconst 2, 1) := by decide +kernel
theorem dX9_digest_304 : decode cX9_digest 304 = .ok (.iload 4, 2) := by decide +kernel
theorem dX9_digest_306 : decode cX9_digest 306 = .ok (.imul, 1) := by decide +kernel
theorem dX9_digest_307 : decode cX9_digest 307 = .ok (.iaload, 1) := by decide +kernel
theorem dX9_digest_308 : decode cX9_digest 308 = .ok (.i2l, 1) := by decide +kernel
theorem dX9_digest_309 : decode cX9_digest 309 = .ok (.ladd, 1) := by decide +kernel
theorem dX9_digest_310 : decode cX9_digest 310 = .ok (.lstore_n 1, 1) := by decide +kernel
theorem dX9_digest_311 : decode cX9_digest 311 = .ok (.ldc2_w 350, 3) := by decide +kernel
theorem dX9_digest_314 : decode cX9_digest 314 = .ok (.lload_n 1, 1) := by decide +kernel
theorem dX9_digest_315 : decode cX9_digest 315 = .ok (.lmul, 1) := by decide +kernel
theorem dX9_digest_316 : decode cX9_digest 316 = .ok (.aload_n 0, 1) := by decide +kernel
theorem dX9_digest_317 : decode cX9_digest 317 = .ok (.getfield 84, 3) := by decide +kernel
theorem dX9_digest_320 : decode cX9_digest 320 = .ok (.iconst 2, 1) := by decide +kernel
theorem dX9_digest_321 : decode cX9_digest 321 = .ok (.iload 4, 2) := by decide +kernel
theorem dX9_digest_323 : decode cX9_digest 323 = .ok (.imul, 1) := by decide +kernel
theorem dX9_digest_324 : decode cX9_digest 324 = .ok (.iconst 1, 1) := by decide +kernel
theorem dX9_digest_325 : decode cX9_digest 325 = .ok (.iadd, 1) := by decide +kernel
theorem dX9_digest_326 : decode cX9_digest 326 = .ok (.iaload, 1) := by decide +kernel
theorem dX9_digest_327 : decode cX9_digest 327 = .ok (.i2l, 1) := by decide +kernel
theorem dX9_digest_328 : decode cX9_digest 328 = .ok (.ladd, 1) := by decide +kernel
theorem dX9_digest_329 : decode cX9_digest 329 = .ok (.lstore_n 1, 1) := by decide +kernel
theorem dX9_digest_330 : decode cX9_digest 330 = .ok (.aload_n 0, 1) := by decide +kernel
theorem dX9_digest_331 : decode cX9_digest 331 = .ok (.iload 4, 2) := by decide +kernel
theorem dX9_digest_333 : decode cX9_digest 333 = .ok (.invokevirtual 294, 3) := by decide +kernel
theorem dX9_digest_336 : decode cX9_digest 336 = .ok (.iconst 0, 1) := by decide +kernel
theorem dX9_digest_337 : decode cX9_digest 337 = .ok (.istore 5, 2) := by decide +kernel
theorem dX9_digest_339 : decode cX9_digest 339 = .ok (.iload 5, 2) := by decide +kernel
theorem dX9_digest_341 : decode cX9_digest 341 = .ok (.aload_n 0, 1) := by decide +kernel
theorem dX9_digest_342 : decode cX9_digest 342 = .ok (.getfield 129, 3) := by decide +kernel
theorem dX9_digest_345 : decode cX9_digest 345 = .ok (.if_icmp .ge 24, 3) := by decide +kernel
theorem dX9_digest_348 : decode cX9_digest 348 = .ok (.ldc2_w 350, 3) := by decide +kernel
theorem dX9_digest_351 : decode cX9_digest 351 = .ok (.lload_n 1, 1) := by decide +kernel
theorem dX9_digest_352 : decode cX9_digest 352 = .ok (.lmul, 1) := by decide +kernel
theorem dX9_digest_353 : decode cX9_digest 353 = .ok (.aload_n 0, 1) := by decide +kernel
theorem dX9_digest_354 : decode cX9_digest 354 = .ok (.getfield 62, 3) := by decide +kernel
theorem dX9_digest_357 : decode cX9_digest 357 = .ok (.iload 5, 2) := by decide +kernel
theorem dX9_digest_359 : decode cX9_digest 359 = .ok (.iaload, 1) := by decide +kernel
theorem dX9_digest_360 : decode cX9_digest 360 = .ok (.i2l, 1) := by decide +kernel
theorem dX9_digest_361 : decode cX9_digest 361 = .ok (.ladd, 1) := by decide +kernel
theorem dX9_digest_362 : decode cX9_digest 362 = .ok (.lstore_n 1, 1) := by decide +kernel
theorem dX9_digest_363 : decode cX9_digest 363 = .ok (.iinc 5 1, 3) := by decide +kernel
theorem dX9_digest_366 : decode cX9_digest 366 = .ok (.goto (-27), 3) := by decide +kernel
theorem dX9_digest_369 : decode cX9_digest 369 = .ok (.ldc2_w 350, 3) := by decide +kernel
theorem dX9_digest_372 : decode cX9_digest 372 = .ok (.lload_n 1, 1) := by decide +kernel
theorem dX9_digest_373 : decode cX9_digest 373 = .ok (.lmul, 1) := by decide +kernel
theorem dX9_digest_374 : decode cX9_digest 374 = .ok (.aload_n 0, 1) := by decide +kernel
theorem dX9_digest_375 : decode cX9_digest 375 = .ok (.iload 4, 2) := by decide +kernel
theorem dX9_digest_377 : decode cX9_digest 377 = .ok (.invokevirtual 297, 3) := by decide +kernel
theorem dX9_digest_380 : decode cX9_digest 380 = .ok (.i2l, 1) := by decide +kernel
theorem dX9_digest_381 : decode cX9_digest 381 = .ok (.ladd, 1) := by decide +kernel
theorem dX9_digest_382 : decode cX9_digest 382 = .ok (.lstore_n 1, 1) := by decide +kernel
theorem dX9_digest_383 : decode cX9_digest 383 = .ok (.ldc2_w 350, 3) := by decide +kernel
theorem dX9_digest_386 : decode cX9_digest 386 = .ok (.lload_n 1, 1) := by decide +kernel
theorem dX9_digest_387 : decode cX9_digest 387 = .ok (.lmul, 1) := by decide +kernel
theorem dX9_digest_388 : decode cX9_digest 388 = .ok (.aload_n 0, 1) := by decide +kernel
theorem dX9_digest_389 : decode cX9_digest 389 = .ok (.iload 4, 2) := by decide +kernel
theorem dX9_digest_391 : decode cX9_digest 391 = .ok (.invokevirtual 302, 3) := by decide +kernel
theorem dX9_digest_394 : decode cX9_digest 394 = .ok (.i2l, 1) := by decide +kernel
theorem dX9_digest_395 : decode cX9_digest 395 = .ok (.ladd, 1) := by decide +kernel
theorem dX9_digest_396 : decode cX9_digest 396 = .ok (.lstore_n 1, 1) := by decide +kernel
theorem dX9_digest_397 : decode cX9_digest 397 = .ok (.ldc2_w 350, 3) := by decide +kernel
theorem dX9_digest_400 : decode cX9_digest 400 = .ok (.lload_n 1, 1) := by decide +kernel
theorem dX9_digest_401 : decode cX9_digest 401 = .ok (.lmul, 1) := by decide +kernel
theorem dX9_digest_402 : decode cX9_digest 402 = .ok (.aload_n 0, 1) := by decide +kernel
theorem dX9_digest_403 : decode cX9_digest 403 = .ok (.iload 4, 2) := by decide +kernel
theorem dX9_digest_405 : decode cX9_digest 405 = .ok (.invokevirtual 305, 3) := by decide +kernel
theorem dX9_digest_408 : decode cX9_digest 408 = .ok (.i2l, 1) := by decide +kernel
theorem dX9_digest_409 : decode cX9_digest 409 = .ok (.ladd, 1) := by decide +kernel
theorem dX9_digest_410 : decode cX9_digest 410 = .ok (.lstore_n 1, 1) := by decide +kernel
theorem dX9_digest_411 : decode cX9_digest 411 = .ok (.iconst 0, 1) := by decide +kernel
theorem dX9_digest_412 : decode cX9_digest 412 = .ok (.istore 5, 2) := by decide +kernel
theorem dX9_digest_414 : decode cX9_digest 414 = .ok (.iload 5, 2) := by decide +kernel
theorem dX9_digest_416 : decode cX9_digest 416 = .ok (.iconst 2, 1) := by decide +kernel
theorem dX9_digest_417 : decode cX9_digest 417 = .ok (.if_icmp .ge 24, 3) := by decide +kernel
theorem dX9_digest_420 : decode cX9_digest 420 = .ok (.ldc2_w 350, 3) := by decide +kernel
theorem dX9_digest_423 : decode cX9_digest 423 = .ok (.lload_n 1, 1) := by decide +kernel
theorem dX9_digest_424 : decode cX9_digest 424 = .ok (.lmul, 1) := by decide +kernel
theorem dX9_digest_425 : decode cX9_digest 425 = .ok (.aload_n 0, 1) := by decide +kernel
theorem dX9_digest_426 : decode cX9_digest 426 = .ok (.iload 4, 2) := by decide +kernel
theorem dX9_digest_428 : decode cX9_digest 428 = .ok (.iload 5, 2) := by decide +kernel
theorem dX9_digest_430 : decode cX9_digest 430 = .ok (.invokevirtual 311, 3) := by decide +kernel
theorem dX9_digest_433 : decode cX9_digest 433 = .ok (.ladd, 1) := by decide +kernel
theorem dX9_digest_434 : decode cX9_digest 434 = .ok (.lstore_n 1, 1) := by decide +kernel
theorem dX9_digest_435 : decode cX9_digest 435 = .ok (.iinc 5 1, 3) := by decide +kernel
theorem dX9_digest_438 : decode cX9_digest 438 = .ok (.goto (-24), 3) := by decide +kernel
theorem dX9_digest_441 : decode cX9_digest 441 = .ok (.ldc2_w 350, 3) := by decide +kernel
theorem dX9_digest_444 : decode cX9_digest 444 = .ok (.lload_n 1, 1) := by decide +kernel
theorem dX9_digest_445 : decode cX9_digest 445 = .ok (.lmul, 1) := by decide +kernel
theorem dX9_digest_446 : decode cX9_digest 446 = .ok (.aload_n 0, 1) := by decide +kernel
theorem dX9_digest_447 : decode cX9_digest 447 = .ok (.bipush 7, 2) := by decide +kernel
theorem dX9_digest_449 : decode cX9_digest 449 = .ok (.bipush 9, 2) := by decide +kernel
theorem dX9_digest_451 : decode cX9_digest 451 = .ok (.iload 4, 2) := by decide +kernel
theorem dX9_digest_453 : decode cX9_digest 453 = .ok (.invokevirtual 329, 3) := by decide +kernel
theorem dX9_digest_456 : decode cX9_digest 456 = .ok (.i2l, 1) := by decide +kernel
theorem dX9_digest_457 : decode cX9_digest 457 = .ok (.ladd, 1) := by decide +kernel
theorem dX9_digest_458 : decode cX9_digest 458 = .ok (.lstore_n 1, 1) := by decide +kernel
theorem dX9_digest_459 : decode cX9_digest 459 = .ok (.ldc2_w 350, 3) := by decide +kernel
theorem dX9_digest_462 : decode cX9_digest 462 = .ok (.lload_n 1, 1) := by decide +kernel
theorem dX9_digest_463 : decode cX9_digest 463 = .ok (.lmul, 1) := by decide +kernel
theorem dX9_digest_464 : decode cX9_digest 464 = .ok (.aload_n 0, 1) := by decide +kernel
theorem dX9_digest_465 : decode cX9_digest 465 = .ok (.iload 4, 2) := by decide +kernel
theorem dX9_digest_467 : decode cX9_digest 467 = .ok (.invokevirtual 345, 3) := by decide +kernel
theorem dX9_digest_470 : decode cX9_digest 470 = .ok (.i2l, 1) := by decide +kernel
theorem dX9_digest_471 : decode cX9_digest 471 = .ok (.ladd, 1) := by decide +kernel
theorem dX9_digest_472 : decode cX9_digest 472 = .ok (.lstore_n 1, 1) := by decide +kernel
theorem dX9_digest_473 : decode cX9_digest 473 = .ok (.iinc 4 1, 3) := by decide +kernel
theorem dX9_digest_476 : decode cX9_digest 476 = .ok (.goto (-347), 3) := by decide +kernel
theorem dX9_digest_479 : decode cX9_digest 479 = .ok (.ldc2_w 350, 3) := by decide +kernel
theorem dX9_digest_482 : decode cX9_digest 482 = .ok (.lload_n 1, 1) := by decide +kernel
theorem dX9_digest_483 : decode cX9_digest 483 = .ok (.lmul, 1) := by decide +kernel
theorem dX9_digest_484 : decode cX9_digest 484 = .ok (.iload_n 3, 1) := by decide +kernel
theorem dX9_digest_485 : decode cX9_digest 485 = .ok (.i2l, 1) := by decide +kernel
theorem dX9_digest_486 : decode cX9_digest 486 = .ok (.ladd, 1) := by decide +kernel
theorem dX9_digest_487 : decode cX9_digest 487 = .ok (.lstore_n 1, 1) := by decide +kernel
theorem dX9_digest_488 : decode cX9_digest 488 = .ok (.ldc2_w 350, 3) := by decide +kernel
theorem dX9_digest_491 : decode cX9_digest 491 = .ok (.lload_n 1, 1) := by decide +kernel
theorem dX9_digest_492 : decode cX9_digest 492 = .ok (.lmul, 1) := by decide +kernel
theorem dX9_digest_493 : decode cX9_digest 493 = .ok (.aload_n 0, 1) := by decide +kernel
theorem dX9_digest_494 : decode cX9_digest 494 = .ok (.iconst 0, 1) := by decide +kernel
theorem dX9_digest_495 : decode cX9_digest 495 = .ok (.invokevirtual 314, 3) := by decide +kernel
theorem dX9_digest_498 : decode cX9_digest 498 = .ok (.ladd, 1) := by decide +kernel
theorem dX9_digest_499 : decode cX9_digest 499 = .ok (.lstore_n 1, 1) := by decide +kernel
theorem dX9_digest_500 : decode cX9_digest 500 = .ok (.ldc2_w 350, 3) := by decide +kernel
theorem dX9_digest_503 : decode cX9_digest 503 = .ok (.lload_n 1, 1) := by decide +kernel
theorem dX9_digest_504 : decode cX9_digest 504 = .ok (.lmul, 1) := by decide +kernel
theorem dX9_digest_505 : decode cX9_digest 505 = .ok (.aload_n 0, 1) := by decide +kernel
theorem dX9_digest_506 : decode cX9_digest 506 = .ok (.iconst 1, 1) := by decide +kernel
theorem dX9_digest_507 : decode cX9_digest 507 = .ok (.invokevirtual 314, 3) := by decide +kernel
theorem dX9_digest_510 : decode cX9_digest 510 = .ok (.ladd, 1) := by decide +kernel
theorem dX9_digest_511 : decode cX9_digest 511 = .ok (.lreturn, 1) := by decide +kernel
