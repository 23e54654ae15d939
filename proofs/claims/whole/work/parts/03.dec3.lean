theorem dX4_init_23 : decode cX4_init 23 = .ok (.newarray .int, 2) := by decide +kernel
theorem dX4_init_25 : decode cX4_init 25 = .ok (.putfield 17, 3) := by decide +kernel
theorem dX4_init_28 : decode cX4_init 28 = .ok (.aload_n 0, 1) := by decide +kernel
theorem dX4_init_29 : decode cX4_init 29 = .ok (.bipush 24, 2) := by decide +kernel
theorem dX4_init_31 : decode cX4_init 31 = .ok (.newarray .int, 2) := by decide +kernel
theorem dX4_init_33 : decode cX4_init 33 = .ok (.putfield 20, 3) := by decide +kernel
theorem dX4_init_36 : decode cX4_init 36 = .ok (.aload_n 0, 1) := by decide +kernel
theorem dX4_init_37 : decode cX4_init 37 = .ok (.bipush 24, 2) := by decide +kernel
theorem dX4_init_39 : decode cX4_init 39 = .ok (.newarray .int, 2) := by decide +kernel
theorem dX4_init_41 : decode cX4_init 41 = .ok (.putfield 23, 3) := by decide +kernel
theorem dX4_init_44 : decode cX4_init 44 = .ok (.aload_n 0, 1) := by decide +kernel
theorem dX4_init_45 : decode cX4_init 45 = .ok (.bipush 24, 2) := by decide +kernel
theorem dX4_init_47 : decode cX4_init 47 = .ok (.newarray .int, 2) := by decide +kernel
theorem dX4_init_49 : decode cX4_init 49 = .ok (.putfield 26, 3) := by decide +kernel
theorem dX4_init_52 : decode cX4_init 52 = .ok (.aload_n 0, 1) := by decide +kernel
theorem dX4_init_53 : decode cX4_init 53 = .ok (.bipush 72, 2) := by decide +kernel
theorem dX4_init_55 : decode cX4_init 55 = .ok (.newarray .int, 2) := by decide +kernel
theorem dX4_init_57 : decode cX4_init 57 = .ok (.putfield 29, 3) := by decide +kernel
theorem dX4_init_60 : decode cX4_init 60 = .ok (.aload_n 0, 1) := by decide +kernel
theorem dX4_init_61 : decode cX4_init 61 = .ok (.bipush 40, 2) := by decide +kernel
theorem dX4_init_63 : decode cX4_init 63 = .ok (.newarray .boolean, 2) := by decide +kernel
theorem dX4_init_65 : decode cX4_init 65 = .ok (.putfield 32, 3) := by decide +kernel
theorem dX4_init_68 : decode cX4_init 68 = .ok (.aload_n 0, 1) := by decide +kernel
theorem dX4_init_69 : decode cX4_init 69 = .ok (.bipush 40, 2) := by decide +kernel
theorem dX4_init_71 : decode cX4_init 71 = .ok (.newarray .int, 2) := by decide +kernel
theorem dX4_init_73 : decode cX4_init 73 = .ok (.putfield 35, 3) := by decide +kernel
theorem dX4_init_76 : decode cX4_init 76 = .ok (.aload_n 0, 1) := by decide +kernel
theorem dX4_init_77 : decode cX4_init 77 = .ok (.bipush 40, 2) := by decide +kernel
theorem dX4_init_79 : decode cX4_init 79 = .ok (.newarray .int, 2) := by decide +kernel
theorem dX4_init_81 : decode cX4_init 81 = .ok (.putfield 38, 3) := by decide +kernel
theorem dX4_init_84 : decode cX4_init 84 = .ok (.aload_n 0, 1) := by decide +kernel
theorem dX4_init_85 : decode cX4_init 85 = .ok (.bipush 40, 2) := by decide +kernel
theorem dX4_init_87 : decode cX4_init 87 = .ok (.newarray .int, 2) := by decide +kernel
theorem dX4_init_89 : decode cX4_init 89 = .ok (.putfield 41, 3) := by decide +kernel
theorem dX4_init_92 : decode cX4_init 92 = .ok (.aload_n 0, 1) := by decide +kernel
theorem dX4_init_93 : decode cX4_init 93 = .ok (.bipush 40, 2) := by decide +kernel
theorem dX4_init_95 : decode cX4_init 95 = .ok (.newarray .int, 2) := by decide +kernel
theorem dX4_init_97 : decode cX4_init 97 = .ok (.putfield 44, 3) := by decide +kernel
theorem dX4_init_100 : decode cX4_init 100 = .ok (.aload_n 0, 1) := by decide +kernel
theorem dX4_init_101 : decode cX4_init 101 = .ok (.sipush 480, 3) := by decide +kernel
theorem dX4_init_104 : decode cX4_init 104 = .ok (.newarray .int, 2) := by decide +kernel
theorem dX4_init_106 : decode cX4_init 106 = .ok (.putfield 47, 3) := by decide +kernel
theorem dX4_init_109 : decode cX4_init 109 = .ok (.aload_n 0, 1) := by decide +kernel
theorem dX4_init_110 : decode cX4_init 110 = .ok (.bipush 60, 2) := by decide +kernel
theorem dX4_init_112 : decode cX4_init 112 = .ok (.newarray .boolean, 2) := by decide +kernel
theorem dX4_init_114 : decode cX4_init 114 = .ok (.putfield 50, 3) := by decide +kernel
theorem dX4_init_117 : decode cX4_init 117 = .ok (.aload_n 0, 1) := by decide +kernel
theorem dX4_init_118 : decode cX4_init 118 = .ok (.bipush 60, 2) := by decide +kernel
theorem dX4_init_120 : decode cX4_init 120 = .ok (.newarray .boolean, 2) := by decide +kernel
theorem dX4_init_122 : decode cX4_init 122 = .ok (.putfield 53, 3) := by decide +kernel
theorem dX4_init_125 : decode cX4_init 125 = .ok (.aload_n 0, 1) := by decide +kernel
theorem dX4_init_126 : decode cX4_init 126 = .ok (.bipush 60, 2) := by decide +kernel
theorem dX4_init_128 : decode cX4_init 128 = .ok (.newarray .int, 2) := by decide +kernel
theorem dX4_init_130 : decode cX4_init 130 = .ok (.putfield 56, 3) := by decide +kernel
theorem dX4_init_133 : decode cX4_init 133 = .ok (.aload_n 0, 1) := by decide +kernel
theorem dX4_init_134 : decode cX4_init 134 = .ok (.bipush 60, 2) := by decide +kernel
theorem dX4_init_136 : decode cX4_init 136 = .ok (.newarray .int, 2) := by decide +kernel
theorem dX4_init_138 : decode cX4_init 138 = .ok (.putfield 59, 3) := by decide +kernel
theorem dX4_init_141 : decode cX4_init 141 = .ok (.aload_n 0, 1) := by decide +kernel
theorem dX4_init_142 : decode cX4_init 142 = .ok (.bipush 60, 2) := by decide +kernel
theorem dX4_init_144 : decode cX4_init 144 = .ok (.newarray .int, 2) := by decide +kernel
theorem dX4_init_146 : decode cX4_init 146 = .ok (.putfield 62, 3) := by decide +kernel
theorem dX4_init_149 : decode cX4_init 149 = .ok (.aload_n 0, 1) := by decide +kernel
theorem dX4_init_150 : decode cX4_init 150 = .ok (.bipush 60, 2) := by decide +kernel
theorem dX4_init_152 : decode cX4_init 152 = .ok (.newarray .int, 2) := by decide +kernel
theorem dX4_init_154 : decode cX4_init 154 = .ok (.putfield 65, 3) := by decide +kernel
theorem dX4_init_157 : decode cX4_init 157 = .ok (.aload_n 0, 1) := by decide +kernel
theorem dX4_init_158 : decode cX4_init 158 = .ok (.bipush 60, 2) := by decide +kernel
theorem dX4_init_160 : decode cX4_init 160 = .ok (.newarray .int, 2) := by decide +kernel
theorem dX4_init_162 : decode cX4_init 162 = .ok (.putfield 68, 3) := by decide +kernel
theorem dX4_init_165 : decode cX4_init 165 = .ok (.aload_n 0, 1) := by decide +kernel
theorem dX4_init_166 : decode cX4_init 166 = .ok (.bipush 60, 2) := by decide +kernel
theorem dX4_init_168 : decode cX4_init 168 = .ok (.newarray .int, 2) := by decide +kernel
theorem dX4_init_170 : decode cX4_init 170 = .ok (.putfield 71, 3) := by decide +kernel
theorem dX4_init_173 : decode cX4_init 173 = .ok (.aload_n 0, 1) := by decide +kernel
theorem dX4_init_174 : decode cX4_init 174 = .ok (.sipush 1920, 3) := by decide +kernel
theorem dX4_init_177 : decode cX4_init 177 = .ok (.newarray .int, 2) := by decide +kernel
theorem dX4_init_179 : decode cX4_init 179 = .ok (.putfield 74, 3) := by decide +kernel
theorem dX4_init_182 : decode cX4_init 182 = .ok (.aload_n 0, 1) := by decide +kernel
theorem dX4_init_183 : decode cX4_init 183 = .ok (.iconst (-1), 1) := by decide +kernel
theorem dX4_init_184 : decode cX4_init 184 = .ok (.putfield 77, 3) := by decide +kernel
theorem dX4_init_187 : decode cX4_init 187 = .ok (.aload_n 0, 1) := by decide +kernel
theorem dX4_init_188 : decode cX4_init 188 = .ok (.bipush 60, 2) := by decide +kernel
theorem dX4_init_190 : decode cX4_init 190 = .ok (.newarray .boolean, 2) := by decide +kernel
theorem dX4_init_192 : decode cX4_init 192 = .ok (.putfield 81, 3) := by decide +kernel
theorem dX4_init_195 : decode cX4_init 195 = .ok (.aload_n 0, 1) := by decide +kernel
theorem dX4_init_196 : decode cX4_init 196 = .ok (.iconst 1, 1) := by decide +kernel
theorem dX4_init_197 : decode cX4_init 197 = .ok (.putfield 84, 3) := by decide +kernel
theorem dX4_init_200 : decode cX4_init 200 = .ok (.aload_n 0, 1) := by decide +kernel
theorem dX4_init_201 : decode cX4_init 201 = .ok (.invokevirtual 87, 3) := by decide +kernel
theorem dX4_init_204 : decode cX4_init 204 = .ok (.aload_n 0, 1) := by decide +kernel
theorem dX4_init_205 : decode cX4_init 205 = .ok (.iconst 1, 1) := by decide +kernel
theorem dX4_init_206 : decode cX4_init 206 = .ok (.putfield 90, 3) := by decide +kernel
theorem dX4_init_209 : decode cX4_init 209 = .ok (.aload_n 0, 1) := by decide +kernel
theorem dX4_init_210 : decode cX4_init 210 = .ok (.getfield 50, 3) := by decide +kernel
theorem dX4_init_213 : decode cX4_init 213 = .ok (.iconst 0, 1) := by decide +kernel
theorem dX4_init_214 : decode cX4_init 214 = .ok (.iconst 1, 1) := by decide +kernel
theorem dX4_init_215 : decode cX4_init 215 = .ok (.bastore, 1) := by decide +kernel
theorem dX4_init_216 : decode cX4_init 216 = .ok (.aload_n 0, 1) := by decide +kernel
theorem dX4_init_217 : decode cX4_init 217 = .ok (.getfield 53, 3) := by decide +kernel
theorem dX4_init_220 : decode cX4_init 220 = .ok (.iconst 0, 1) := by decide +kernel
theorem dX4_init_221 : decode cX4_init 221 = .ok (.iconst 1, 1) := by decide +kernel
theorem dX4_init_222 : decode cX4_init 222 = .ok (.bastore, 1) := by decide +kernel
theorem dX4_init_223 : decode cX4_init 223 = .ok (.aload_n 0, 1) := by decide +kernel
theorem dX4_init_224 : decode cX4_init 224 = .ok (.getfield 62, 3) := by decide +kernel
theorem dX4_init_227 : decode cX4_init 227 = .ok (.iconst 0, 1) := by decide +kernel
theorem dX4_init_228 : decode cX4_init 228 = .ok (.iconst (-1), 1) := by decide +kernel
theorem dX4_init_229 : decode cX4_init 229 = .ok (.iastore, 1) := by decide +kernel
theorem dX4_init_230 : decode cX4_init 230 = .ok (.aload_n 0, 1) := by decide +kernel
theorem dX4_init_231 : decode cX4_init 231 = .ok (.getfield 65, 3) := by decide +kernel
theorem dX4_init_234 : decode cX4_init 234 = .ok (.iconst 0, 1) := by decide +kernel
theorem dX4_init_235 : decode cX4_init 235 = .ok (.sipush 200, 3) := by decide +kernel
theorem dX4_init_238 : decode cX4_init 238 = .ok (.iastore, 1) := by decide +kernel
theorem dX4_init_239 : decode cX4_init 239 = .ok (.aload_n 0, 1) := by decide +kernel
theorem dX4_init_240 : decode cX4_init 240 = .ok (.getfield 68, 3) := by decide +kernel
theorem dX4_init_243 : decode cX4_init 243 = .ok (.iconst 0, 1) := by decide +kernel
theorem dX4_init_244 : decode cX4_init 244 = .ok (.bipush 50, 2) := by decide +kernel
theorem dX4_init_246 : decode cX4_init 246 = .ok (.iastore, 1) := by decide +kernel
theorem dX4_init_247 : decode cX4_init 247 = .ok (.return_, 1) := by decide +kernel
theorem dX4_within_0 : decode cX4_within 0 = .ok (.lload_n 0, 1) := by decide +kernel
theorem dX4_within_1 : decode cX4_within 1 = .ok (.lload_n 2, 1) := by decide +kernel
theorem dX4_within_2 : decode cX4_within 2 = .ok (.lcmp, 1) := by decide +kernel
theorem dX4_within_3 : decode cX4_within 3 = .ok (.ifCond .lt 14, 3) := by decide +kernel
theorem dX4_within_6 : decode cX4_within 6 = .ok (.lload_n 0, 1) := by decide +kernel
theorem dX4_within_7 : decode cX4_within 7 = .ok (.lload 4, 2) := by decide +kernel
theorem dX4_within_9 : decode cX4_within 9 = .ok (.lcmp, 1) := by decide +kernel
theorem dX4_within_10 : decode cX4_within 10 = .ok (.ifCond .gt 7, 3) := by decide +kernel
theorem dX4_within_13 : decode cX4_within 13 = .ok (.iconst 1, 1) := by decide +kernel
theorem dX4_within_14 : decode cX4_within 14 = .ok (.goto 4, 3) := by decide +kernel
theorem dX4_within_17 : decode cX4_within 17 = .ok (.iconst 0, 1) := by decide +kernel
theorem dX4_within_18 : decode cX4_within 18 = .ok (.ireturn, 1) := by decide +kernel
theorem dX4_isProcess_0 : decode cX4_isProcess 0 = .ok (.iload_n 1, 1) := by decide +kernel
theorem dX4_isProcess_1 : decode cX4_isProcess 1 = .ok (.i2l, 1) := by decide +kernel
theorem dX4_isProcess_2 : decode cX4_isProcess 2 = .ok (.lconst 0, 1) := by decide +kernel
theorem dX4_isProcess_3 : decode cX4_isProcess 3 = .ok (.aload_n 0, 1) := by decide +kernel
theorem dX4_isProcess_4 : decode cX4_isProcess 4 = .ok (.getfield 84, 3) := by decide +kernel
theorem dX4_isProcess_7 : decode cX4_isProcess 7 = .ok (.iconst 1, 1) := by decide +kernel
theorem dX4_isProcess_8 : decode cX4_isProcess 8 = .ok (.isub, 1) := by decide +kernel
theorem dX4_isProcess_9 : decode cX4_isProcess 9 = .ok (.i2l, 1) := by decide +kernel
theorem dX4_isProcess_10 : decode cX4_isProcess 10 = .ok (.invokestatic 93, 3) := by decide +kernel
theorem dX4_isProcess_13 : decode cX4_isProcess 13 = .ok (.ifCond .eq 16, 3) := by decide +kernel
theorem dX4_isProcess_16 : decode cX4_isProcess 16 = .ok (.aload_n 0, 1) := by decide +kernel
theorem dX4_isProcess_17 : decode cX4_isProcess 17 = .ok (.getfield 7, 3) := by decide +kernel
theorem dX4_isProcess_20 : decode cX4_isProcess 20 = .ok (.iload_n 1, 1) := by decide +kernel
theorem dX4_isProcess_21 : decode cX4_isProcess 21 = .ok (.baload, 1) := by decide +kernel
theorem dX4_isProcess_22 : decode cX4_isProcess 22 = .ok (.ifCond .eq 7, 3) := by decide +kernel
theorem dX4_isProcess_25 : decode cX4_isProcess 25 = .ok (.iconst 1, 1) := by decide +kernel
theorem dX4_isProcess_26 : decode cX4_isProcess 26 = .ok (.goto 4, 3) := by decide +kernel
theorem dX4_isProcess_29 : decode cX4_isProcess 29 = .ok (.iconst 0, 1) := by decide +kernel
theorem dX4_isProcess_30 : decode cX4_isProcess 30 = .ok (.ireturn, 1) := by decide +kernel
theorem dX4_isSet_0 : decode cX4_isSet 0 = .ok (.iload_n 1, 1) := by decide +kernel
theorem dX4_isSet_1 : decode cX4_isSet 1 = .ok (.i2l, 1) := by decide +kernel
theorem dX4_isSet_2 : decode cX4_isSet 2 = .ok (.lconst 0, 1) := by decide +kernel
theorem dX4_isSet_3 : decode cX4_isSet 3 = .ok (.iconst 1, 1) := by decide +kernel
theorem dX4_isSet_4 : decode cX4_isSet 4 = .ok (.aload_n 0, 1) := by decide +kernel
theorem dX4_isSet_5 : decode cX4_isSet 5 = .ok (.getfield 97, 3) := by decide +kernel
theorem dX4_isSet_8 : decode cX4_isSet 8 = .ok (.ishl, 1) := by decide +kernel
theorem dX4_isSet_9 : decode cX4_isSet 9 = .ok (.iconst 1, 1) := by decide +kernel
theorem dX4_isSet_10 : decode cX4_isSet 10 = .ok (.isub, 1) := by decide +kernel
theorem dX4_isSet_11 : decode cX4_isSet 11 = .ok (.i2l, 1) := by decide +kernel
theorem dX4_isSet_12 : decode cX4_isSet 12 = .ok (.invokestatic 93, 3) := by decide +kernel
theorem dX4_isSet_15 : decode cX4_isSet 15 = .ok (.ireturn, 1) := by decide +kernel
theorem dX4_isPort_0 : decode cX4_isPort 0 = .ok (.iload_n 1, 1) := by decide +kernel
theorem dX4_isPort_1 : decode cX4_isPort 1 = .ok (.i2l, 1) := by decide +kernel
theorem dX4_isPort_2 : decode cX4_isPort 2 = .ok (.lconst 0, 1) := by decide +kernel
theorem dX4_isPort_3 : decode cX4_isPort 3 = .ok (.aload_n 0, 1) := by decide +kernel
theorem dX4_isPort_4 : decode cX4_isPort 4 = .ok (.getfield 100, 3) := by decide +kernel
theorem dX4_isPort_7 : decode cX4_isPort 7 = .ok (.iconst 1, 1) := by decide +kernel
theorem dX4_isPort_8 : decode cX4_isPort 8 = .ok (.isub, 1) := by decide +kernel
theorem dX4_isPort_9 : decode cX4_isPort 9 = .ok (.i2l, 1) := by decide +kernel
theorem dX4_isPort_10 : decode cX4_isPort 10 = .ok (.invokestatic 93, 3) := by decide +kernel
theorem dX4_isPort_13 : decode cX4_isPort 13 = .ok (.ifCond .eq 16, 3) := by decide +kernel
theorem dX4_isPort_16 : decode cX4_isPort 16 = .ok (.aload_n 0, 1) := by decide +kernel
theorem dX4_isPort_17 : decode cX4_isPort 17 = .ok (.getfield 32, 3) := by decide +kernel
theorem dX4_isPort_20 : decode cX4_isPort 20 = .ok (.iload_n 1, 1) := by decide +kernel
theorem dX4_isPort_21 : decode cX4_isPort 21 = .ok (.baload, 1) := by decide +kernel
theorem dX4_isPort_22 : decode cX4_isPort 22 = .ok (.ifCond .eq 7, 3) := by decide +kernel
theorem dX4_isPort_25 : decode cX4_isPort 25 = .ok (.iconst 1, 1) := by decide +kernel
theorem dX4_isPort_26 : decode cX4_isPort 26 = .ok (.goto 4, 3) := by decide +kernel
theorem dX4_isPort_29 : decode cX4_isPort 29 = .ok (.iconst 0, 1) := by decide +kernel
theorem dX4_isPort_30 : decode cX4_isPort 30 = .ok (.ireturn, 1) := by decide +kernel
theorem dX4_isObject_0 : decode cX4_isObject 0 = .ok (.iload_n 1, 1) := by decide +kernel
theorem dX4_isObject_1 : decode cX4_isObject 1 = .ok (.i2l, 1) := by decide +kernel
theorem dX4_isObject_2 : decode cX4_isObject 2 = .ok (.lconst 0, 1) := by decide +kernel
theorem dX4_isObject_3 : decode cX4_isObject 3 = .ok (.aload_n 0, 1) := by decide +kernel
theorem dX4_isObject_4 : decode cX4_isObject 4 = .ok (.getfield 90, 3) := by decide +kernel
theorem dX4_isObject_7 : decode cX4_isObject 7 = .ok (.iconst 1, 1) := by decide +kernel
theorem dX4_isObject_8 : decode cX4_isObject 8 = .ok (.isub, 1) := by decide +kernel
theorem dX4_isObject_9 : decode cX4_isObject 9 = .ok (.i2l, 1) := by decide +kernel
theorem dX4_isObject_10 : decode cX4_isObject 10 = .ok (.invokestatic 93, 3) := by decide +kernel
theorem dX4_isObject_13 : decode cX4_isObject 13 = .ok (.ifCond .eq 16, 3) := by decide +kernel
theorem dX4_isObject_16 : decode cX4_isObject 16 = .ok (.aload_n 0, 1) := by decide +kernel
theorem dX4_isObject_17 : decode cX4_isObject 17 = .ok (.getfield 50, 3) := by decide +kernel
theorem dX4_isObject_20 : decode cX4_isObject 20 = .ok (.iload_n 1, 1) := by decide +kernel
theorem dX4_isObject_21 : decode cX4_isObject 21 = .ok (.baload, 1) := by decide +kernel
theorem dX4_isObject_22 : decode cX4_isObject 22 = .ok (.ifCond .eq 7, 3) := by decide +kernel
theorem dX4_isObject_25 : decode cX4_isObject 25 = .ok (.iconst 1, 1) := by decide +kernel
theorem dX4_isObject_26 : decode cX4_isObject 26 = .ok (.goto 4, 3) := by decide +kernel
theorem dX4_isObject_29 : decode cX4_isObject 29 = .ok (.iconst 0, 1) := by decide +kernel
theorem dX4_isObject_30 : decode cX4_isObject 30 = .ok (.ireturn, 1) := by decide +kernel
theorem dX4_begin_0 : decode cX4_begin 0 = .ok (.iconst 0, 1) := by decide +kernel
theorem dX4_begin_1 : decode cX4_begin 1 = .ok (.istore_n 1, 1) := by decide +kernel
theorem dX4_begin_2 : decode cX4_begin 2 = .ok (.iload_n 1, 1) := by decide +kernel
theorem dX4_begin_3 : decode cX4_begin 3 = .ok (.aload_n 0, 1) := by decide +kernel
theorem dX4_begin_4 : decode cX4_begin 4 = .ok (.getfield 84, 3) := by decide +kernel
theorem dX4_begin_7 : decode cX4_begin 7 = .ok (.if_icmp .ge 24, 3) := by decide +kernel
theorem dX4_begin_10 : decode cX4_begin 10 = .ok (.aload_n 0, 1) := by decide +kernel
theorem dX4_begin_11 : decode cX4_begin 11 = .ok (.getfield 7, 3) := by decide +kernel
theorem dX4_begin_14 : decode cX4_begin 14 = .ok (.iload_n 1, 1) := by decide +kernel
theorem dX4_begin_15 : decode cX4_begin 15 = .ok (.iload_n 1, 1) := by decide +kernel
theorem dX4_begin_16 : decode cX4_begin 16 = .ok (.ifCond .ne 7, 3) := by decide +kernel
theorem dX4_begin_19 : decode cX4_begin 19 = .ok (.iconst 1, 1) := by decide +kernel
theorem dX4_begin_20 : decode cX4_begin 20 = .ok (.goto 4, 3) := by decide +kernel
theorem dX4_begin_23 : decode cX4_begin 23 = .ok (.iconst 0, 1) := by decide +kernel
theorem dX4_begin_24 : decode cX4_begin 24 = .ok (.bastore, 1) := by decide +kernel
theorem dX4_begin_25 : decode cX4_begin 25 = .ok (.iinc 1 1, 3) := by decide +kernel
theorem dX4_begin_28 : decode cX4_begin 28 = .ok (.goto (-26), 3) := by decide +kernel
theorem dX4_begin_31 : decode cX4_begin 31 = .ok (.iconst 0, 1) := by decide +kernel
theorem dX4_begin_32 : decode cX4_begin 32 = .ok (.istore_n 1, 1) := by decide +kernel
theorem dX4_begin_33 : decode cX4_begin 33 = .ok (.iload_n 1, 1) := by decide +kernel
theorem dX4_begin_34 : decode cX4_begin 34 = .ok (.aload_n 0, 1) := by decide +kernel
theorem dX4_begin_35 : decode cX4_begin 35 = .ok (.getfield 100, 3) := by decide +kernel
theorem dX4_begin_38 : decode cX4_begin 38 = .ok (.if_icmp .ge 16, 3) := by decide +kernel
theorem dX4_begin_41 : decode cX4_begin 41 = .ok (.aload_n 0, 1) := by decide +kernel
theorem dX4_begin_42 : decode cX4_begin 42 = .ok (.getfield 32, 3) := by decide +kernel
theorem dX4_begin_45 : decode cX4_begin 45 = .ok (.iload_n 1, 1) := by decide +kernel
theorem dX4_begin_46 : decode cX4_begin 46 = .ok (.iconst 0, 1) := by decide +kernel
theorem dX4_begin_47 : decode cX4_begin 47 = .ok (.bastore, 1) := by decide +kernel
theorem dX4_begin_48 : decode cX4_begin 48 = .ok (.iinc 1 1, 3) := by decide +kernel
theorem dX4_begin_51 : decode cX4_begin 51 = .ok (.goto (-18), 3) := by decide +kernel
theorem dX4_begin_54 : decode cX4_begin 54 = .ok (.aload_n 0, 1) := by decide +kernel
theorem dX4_begin_55 : decode cX4_begin 55 = .ok (.getfield 13, 3) := by decide +kernel
theorem dX4_begin_58 : decode cX4_begin 58 = .ok (.iconst 0, 1) := by decide +kernel
theorem dX4_begin_59 : decode cX4_begin 59 = .ok (.iconst 0, 1) := by decide +kernel
theorem dX4_begin_60 : decode cX4_begin 60 = .ok (.iastore, 1) := by decide +kernel
theorem dX4_begin_61 : decode cX4_begin 61 = .ok (.aload_n 0, 1) := by decide +kernel
theorem dX4_begin_62 : decode cX4_begin 62 = .ok (.getfield 17, 3) := by decide +kernel
theorem dX4_begin_65 : decode cX4_begin 65 = .ok (.iconst 0, 1) := by decide +kernel
theorem dX4_begin_66 : decode cX4_begin 66 = .ok (.iconst 0, 1) := by decide +kernel
theorem dX4_begin_67 : decode cX4_begin 67 = .ok (.iastore, 1) := by decide +kernel
theorem dX4_begin_68 : decode cX4_begin 68 = .ok (.aload_n 0, 1) := by decide +kernel
theorem dX4_begin_69 : decode cX4_begin 69 = .ok (.getfield 20, 3) := by decide +kernel
theorem dX4_begin_72 : decode cX4_begin 72 = .ok (.iconst 0, 1) := by decide +kernel
theorem dX4_begin_73 : decode cX4_begin 73 = .ok (.iconst 0, 1) := by decide +kernel
theorem dX4_begin_74 : decode cX4_begin 74 = .ok (.iastore, 1) := by decide +kernel
theorem dX4_begin_75 : decode cX4_begin 75 = .ok (.aload_n 0, 1) := by decide +kernel
theorem dX4_begin_76 : decode cX4_begin 76 = .ok (.getfield 23, 3) := by decide +kernel
theorem dX4_begin_79 : decode cX4_begin 79 = .ok (.iconst 0, 1) := by decide +kernel
theorem dX4_begin_80 : decode cX4_begin 80 = .ok (.iconst 0, 1) := by decide +kernel
theorem dX4_begin_81 : decode cX4_begin 81 = .ok (.iastore, 1) := by decide +kernel
theorem dX4_begin_82 : decode cX4_begin 82 = .ok (.aload_n 0, 1) := by decide +kernel
theorem dX4_begin_83 : decode cX4_begin 83 = .ok (.getfield 26, 3) := by decide +kernel
theorem dX4_begin_86 : decode cX4_begin 86 = .ok (.iconst 0, 1) := by decide +kernel
theorem dX4_begin_87 : decode cX4_begin 87 = .ok (.iconst (-1), 1) := by decide +kernel
theorem dX4_begin_88 : decode cX4_begin 88 = .ok (.iastore, 1) := by decide +kernel
theorem dX4_begin_89 : decode cX4_begin 89 = .ok (.iconst 0, 1) := by decide +kernel
theorem dX4_begin_90 : decode cX4_begin 90 = .ok (.istore_n 1, 1) := by decide +kernel
theorem dX4_begin_91 : decode cX4_begin 91 = .ok (.iload_n 1, 1) := by decide +kernel
theorem dX4_begin_92 : decode cX4_begin 92 = .ok (.iconst 3, 1) := by decide +kernel
theorem dX4_begin_93 : decode cX4_begin 93 = .ok (.if_icmp .ge 16, 3) := by decide +kernel
theorem dX4_begin_96 : decode cX4_begin 96 = .ok (.aload_n 0, 1) := by decide +kernel
theorem dX4_begin_97 : decode cX4_begin 97 = .ok (.getfield 29, 3) := by decide +kernel
theorem dX4_begin_100 : decode cX4_begin 100 = .ok (.iload_n 1, 1) := by decide +kernel
theorem dX4_begin_101 : decode cX4_begin 101 = .ok (.iconst 0, 1) := by decide +kernel
theorem dX4_begin_102 : decode cX4_begin 102 = .ok (.iastore, 1) := by decide +kernel
theorem dX4_begin_103 : decode cX4_begin 103 = .ok (.iinc 1 1, 3) := by decide +kernel
theorem dX4_begin_106 : decode cX4_begin 106 = .ok (.goto (-15), 3) := by decide +kernel
theorem dX4_begin_109 : decode cX4_begin 109 = .ok (.return_, 1) := by decide +kernel
theorem dX4_flows_0 : decode cX4_flows 0 = .ok (.iload_n 0, 1) := by decide +kernel
theorem dX4_flows_1 : decode cX4_flows 1 = .ok (.iload_n 2, 1) := by decide +kernel
theorem dX4_flows_2 : decode cX4_flows 2 = .ok (.iconst (-1), 1) := by decide +kernel
theorem dX4_flows_3 : decode cX4_flows 3 = .ok (.ixor, 1) := by decide +kernel
theorem dX4_flows_4 : decode cX4_flows 4 = .ok (.iand, 1) := by decide +kernel
theorem dX4_flows_5 : decode cX4_flows 5 = .ok (.ifCond .ne 15, 3) := by decide +kernel
theorem dX4_flows_8 : decode cX4_flows 8 = .ok (.iload_n 3, 1) := by decide +kernel
theorem dX4_flows_9 : decode cX4_flows 9 = .ok (.iload_n 1, 1) := by decide +kernel
theorem dX4_flows_10 : decode cX4_flows 10 = .ok (.iconst (-1), 1) := by decide +kernel
theorem dX4_flows_11 : decode cX4_flows 11 = .ok (.ixor, 1) := by decide +kernel
theorem dX4_flows_12 : decode cX4_flows 12 = .ok (.iand, 1) := by decide +kernel
theorem dX4_flows_13 : decode cX4_flows 13 = .ok (.ifCond .ne 7, 3) := by decide +kernel
theorem dX4_flows_16 : decode cX4_flows 16 = .ok (.iconst 1, 1) := by decide +kernel
theorem dX4_flows_17 : decode cX4_flows 17 = .ok (.goto 4, 3) := by decide +kernel
theorem dX4_flows_20 : decode cX4_flows 20 = .ok (.iconst 0, 1) := by decide +kernel
theorem dX4_flows_21 : decode cX4_flows 21 = .ok (.ireturn, 1) := by decide +kernel
theorem dX4_tag_0 : decode cX4_tag 0 = .ok (.aload_n 0, 1) := by decide +kernel
theorem dX4_tag_1 : decode cX4_tag 1 = .ok (.iload_n 1, 1) := by decide +kernel
theorem dX4_tag_2 : decode cX4_tag 2 = .ok (.invokevirtual 103, 3) := by decide +kernel
theorem dX4_tag_5 : decode cX4_tag 5 = .ok (.ifCond .ne 6, 3) := by decide +kernel
theorem dX4_tag_8 : decode cX4_tag 8 = .ok (.ldc 107, 2) := by decide +kernel
theorem dX4_tag_10 : decode cX4_tag 10 = .ok (.ireturn, 1) := by decide +kernel
theorem dX4_tag_11 : decode cX4_tag 11 = .ok (.iload_n 2, 1) := by decide +kernel
theorem dX4_tag_12 : decode cX4_tag 12 = .ok (.i2l, 1) := by decide +kernel
theorem dX4_tag_13 : decode cX4_tag 13 = .ok (.lconst 0, 1) := by decide +kernel
theorem dX4_tag_14 : decode cX4_tag 14 = .ok (.ldc2_w 108, 3) := by decide +kernel
theorem dX4_tag_17 : decode cX4_tag 17 = .ok (.invokestatic 93, 3) := by decide +kernel
theorem dX4_tag_20 : decode cX4_tag 20 = .ok (.ifCond .ne 6, 3) := by decide +kernel
theorem dX4_tag_23 : decode cX4_tag 23 = .ok (.ldc 110, 2) := by decide +kernel
theorem dX4_tag_25 : decode cX4_tag 25 = .ok (.ireturn, 1) := by decide +kernel
theorem dX4_tag_26 : decode cX4_tag 26 = .ok (.aload_n 0, 1) := by decide +kernel
theorem dX4_tag_27 : decode cX4_tag 27 = .ok (.getfield 97, 3) := by decide +kernel
theorem dX4_tag_30 : decode cX4_tag 30 = .ok (.bipush 24, 2) := by decide +kernel
theorem dX4_tag_32 : decode cX4_tag 32 = .ok (.if_icmp .ne 6, 3) := by decide +kernel
theorem dX4_tag_35 : decode cX4_tag 35 = .ok (.ldc 111, 2) := by decide +kernel
theorem dX4_tag_37 : decode cX4_tag 37 = .ok (.ireturn, 1) := by decide +kernel
theorem dX4_tag_38 : decode cX4_tag 38 = .ok (.iconst 1, 1) := by decide +kernel
theorem dX4_tag_39 : decode cX4_tag 39 = .ok (.aload_n 0, 1) := by decide +kernel
theorem dX4_tag_40 : decode cX4_tag 40 = .ok (.getfield 97, 3) := by decide +kernel
theorem dX4_tag_43 : decode cX4_tag 43 = .ok (.ishl, 1) := by decide +kernel
theorem dX4_tag_44 : decode cX4_tag 44 = .ok (.istore_n 3, 1) := by decide +kernel
theorem dX4_tag_45 : decode cX4_tag 45 = .ok (.iload_n 2, 1) := by decide +kernel
theorem dX4_tag_46 : decode cX4_tag 46 = .ok (.lookupswitch 72 #[(0, 26), (1, 49)], 26) := by decide +kernel
theorem dX4_tag_72 : decode cX4_tag 72 = .ok (.aload_n 0, 1) := by decide +kernel
theorem dX4_tag_73 : decode cX4_tag 73 = .ok (.dup, 1) := by decide +kernel
theorem dX4_tag_74 : decode cX4_tag 74 = .ok (.getfield 112, 3) := by decide +kernel
theorem dX4_tag_77 : decode cX4_tag 77 = .ok (.iload_n 3, 1) := by decide +kernel
theorem dX4_tag_78 : decode cX4_tag 78 = .ok (.ior, 1) := by decide +kernel
theorem dX4_tag_79 : decode cX4_tag 79 = .ok (.putfield 112, 3) := by decide +kernel
theorem dX4_tag_82 : decode cX4_tag 82 = .ok (.aload_n 0, 1) := by decide +kernel
theorem dX4_tag_83 : decode cX4_tag 83 = .ok (.getfield 23, 3) := by decide +kernel
theorem dX4_tag_86 : decode cX4_tag 86 = .ok (.iload_n 1, 1) := by decide +kernel
theorem dX4_tag_87 : decode cX4_tag 87 = .ok (.dup2, 1) := by decide +kernel
theorem dX4_tag_88 : decode cX4_tag 88 = .ok (.iaload, 1) := by decide +kernel
theorem dX4_tag_89 : decode cX4_tag 89 = .ok (.iload_n 3, 1) := by decide +kernel
theorem dX4_tag_90 : decode cX4_tag 90 = .ok (.ior, 1) := by decide +kernel
theorem dX4_tag_91 : decode cX4_tag 91 = .ok (.iastore, 1) := by decide +kernel
theorem dX4_tag_92 : decode cX4_tag 92 = .ok (.goto 46, 3) := by decide +kernel
theorem dX4_tag_95 : decode cX4_tag 95 = .ok (.aload_n 0, 1) := by decide +kernel
theorem dX4_tag_96 : decode cX4_tag 96 = .ok (.dup, 1) := by decide +kernel
theorem dX4_tag_97 : decode cX4_tag 97 = .ok (.getfield 115, 3) := by decide +kernel
theorem dX4_tag_100 : decode cX4_tag 100 = .ok (.iload_n 3, 1) := by decide +kernel
theorem dX4_tag_101 : decode cX4_tag 101 = .ok (.ior, 1) := by decide +kernel
theorem dX4_tag_102 : decode cX4_tag 102 = .ok (.putfield 115, 3) := by decide +kernel
theorem dX4_tag_105 : decode cX4_tag 105 = .ok (.aload_n 0, 1) := by decide +kernel
theorem dX4_tag_106 : decode cX4_tag 106 = .ok (.getfield 20, 3) := by decide +kernel
theorem dX4_tag_109 : decode cX4_tag 109 = .ok (.iload_n 1, 1) := by decide +kernel
theorem dX4_tag_110 : decode cX4_tag 110 = .ok (.dup2, 1) := by decide +kernel
theorem dX4_tag_111 : decode cX4_tag 111 = .ok (.iaload, 1) := by decide +kernel
theorem dX4_tag_112 : decode cX4_tag 112 = .ok (.iload_n 3, 1) := by decide +kernel
theorem dX4_tag_113 : decode cX4_tag 113 = .ok (.ior, 1) := by decide +kernel
theorem dX4_tag_114 : decode cX4_tag 114 = .ok (.iastore, 1) := by decide +kernel
theorem dX4_tag_115 : decode cX4_tag 115 = .ok (.goto 23, 3) := by decide +kernel
theorem dX4_tag_118 : decode cX4_tag 118 = .ok (.aload_n 0, 1) := by decide +kernel
theorem dX4_tag_119 : decode cX4_tag 119 = .ok (.getfield 20, 3) := by decide +kernel
theorem dX4_tag_122 : decode cX4_tag 122 = .ok (.iload_n 1, 1) := by decide +kernel
theorem dX4_tag_123 : decode cX4_tag 123 = .ok (.dup2, 1) := by decide +kernel
theorem dX4_tag_124 : decode cX4_tag 124 = .ok (.iaload, 1) := by decide +kernel
theorem dX4_tag_125 : decode cX4_tag 125 = .ok (.iload_n 3, 1) := by decide +kernel
theorem dX4_tag_126 : decode cX4_tag 126 = .ok (.ior, 1) := by decide +kernel
theorem dX4_tag_127 : decode cX4_tag 127 = .ok (.iastore, 1) := by decide +kernel
theorem dX4_tag_128 : decode cX4_tag 128 = .ok (.aload_n 0, 1) := by decide +kernel
theorem dX4_tag_129 : decode cX4_tag 129 = .ok (.getfield 23, 3) := by decide +kernel
theorem dX4_tag_132 : decode cX4_tag 132 = .ok (.iload_n 1, 1) := by decide +kernel
theorem dX4_tag_133 : decode cX4_tag 133 = .ok (.dup2, 1) := by decide +kernel
theorem dX4_tag_134 : decode cX4_tag 134 = .ok (.iaload, 1) := by decide +kernel
theorem dX4_tag_135 : decode cX4_tag 135 = .ok (.iload_n 3, 1) := by decide +kernel
theorem dX4_tag_136 : decode cX4_tag 136 = .ok (.ior, 1) := by decide +kernel
theorem dX4_tag_137 : decode cX4_tag 137 = .ok (.iastore, 1) := by decide +kernel
theorem dX4_tag_138 : decode cX4_tag 138 = .ok (.aload_n 0, 1) := by decide +kernel
theorem dX4_tag_139 : decode cX4_tag 139 = .ok (.dup, 1) := by decide +kernel
theorem dX4_tag_140 : decode cX4_tag 140 = .ok (.getfield 97, 3) := by decide +kernel
theorem dX4_tag_143 : decode cX4_tag 143 = .ok (.iconst 1, 1) := by decide +kernel
theorem dX4_tag_144 : decode cX4_tag 144 = .ok (.iadd, 1) := by decide +kernel
theorem dX4_tag_145 : decode cX4_tag 145 = .ok (.putfield 97, 3) := by decide +kernel
theorem dX4_tag_148 : decode cX4_tag 148 = .ok (.aload_n 0, 1) := by decide +kernel
theorem dX4_tag_149 : decode cX4_tag 149 = .ok (.getfield 97, 3) := by decide +kernel
theorem dX4_tag_152 : decode cX4_tag 152 = .ok (.iconst 1, 1) := by decide +kernel
theorem dX4_tag_153 : decode cX4_tag 153 = .ok (.isub, 1) := by decide +kernel
theorem dX4_tag_154 : decode cX4_tag 154 = .ok (.ireturn, 1) := by decide +kernel
theorem dX4_everybody_0 : decode cX4_everybody 0 = .ok (.iload_n 1, 1) := by decide +kernel
theorem dX4_everybody_1 : decode cX4_everybody 1 = .ok (.ifCond .ne 10, 3) := by decide +kernel
theorem dX4_everybody_4 : decode cX4_everybody 4 = .ok (.aload_n 0, 1) := by decide +kernel
theorem dX4_everybody_5 : decode cX4_everybody 5 = .ok (.getfield 112, 3) := by decide +kernel
theorem dX4_everybody_8 : decode cX4_everybody 8 = .ok (.goto 17, 3) := by decide +kernel
theorem dX4_everybody_11 : decode cX4_everybody 11 = .ok (.iload_n 1, 1) := by decide +kernel
theorem dX4_everybody_12 : decode cX4_everybody 12 = .ok (.iconst 1, 1) := by decide +kernel
theorem dX4_everybody_13 : decode cX4_everybody 13 = .ok (.if_icmp .ne 10, 3) := by decide +kernel
theorem dX4_everybody_16 : decode cX4_everybody 16 = .ok (.aload_n 0, 1) := by decide +kernel
theorem dX4_everybody_17 : decode cX4_everybody 17 = .ok (.getfield 115, 3) := by decide +kernel
theorem dX4_everybody_20 : decode cX4_everybody 20 = .ok (.goto 5, 3) := by decide +kernel
theorem dX4_everybody_23 : decode cX4_everybody 23 = .ok (.ldc 110, 2) := by decide +kernel
theorem dX4_everybody_25 : decode cX4_everybody 25 = .ok (.ireturn, 1) := by decide +kernel
theorem dX4_openOf_0 : decode cX4_openOf 0 = .ok (.iconst 0, 1) := by decide +kernel
theorem dX4_openOf_1 : decode cX4_openOf 1 = .ok (.istore_n 2, 1) := by decide +kernel
theorem dX4_openOf_2 : decode cX4_openOf 2 = .ok (.iconst 0, 1) := by decide +kernel
theorem dX4_openOf_3 : decode cX4_openOf 3 = .ok (.istore_n 3, 1) := by decide +kernel
theorem dX4_openOf_4 : decode cX4_openOf 4 = .ok (.iload_n 3, 1) := by decide +kernel
theorem dX4_openOf_5 : decode cX4_openOf 5 = .ok (.aload_n 0, 1) := by decide +kernel
theorem dX4_openOf_6 : decode cX4_openOf 6 = .ok (.getfield 100, 3) := by decide +kernel
theorem dX4_openOf_9 : decode cX4_openOf 9 = .ok (.if_icmp .ge 36, 3) := by decide +kernel
theorem dX4_openOf_12 : decode cX4_openOf 12 = .ok (.iload_n 2, 1) := by decide +kernel
theorem dX4_openOf_13 : decode cX4_openOf 13 = .ok (.aload_n 0, 1) := by decide +kernel
theorem dX4_openOf_14 : decode cX4_openOf 14 = .ok (.getfield 32, 3) := by decide +kernel
theorem dX4_openOf_17 : decode cX4_openOf 17 = .ok (.iload_n 3, 1) := by decide +kernel
theorem dX4_openOf_18 : decode cX4_openOf 18 = .ok (.baload, 1) := by decide +kernel
theorem dX4_openOf_19 : decode cX4_openOf 19 = .ok (.ifCond .eq 17, 3) := by decide +kernel
theorem dX4_openOf_22 : decode cX4_openOf 22 = .ok (.aload_n 0, 1) := by decide +kernel
theorem dX4_openOf_23 : decode cX4_openOf 23 = .ok (.getfield 35, 3) := by decide +kernel
theorem dX4_openOf_26 : decode cX4_openOf 26 = .ok (.iload_n 3, 1) := by decide +kernel
theorem dX4_openOf_27 : decode cX4_openOf 27 = .ok (.iaload, 1) := by decide +kernel
theorem dX4_openOf_28 : decode cX4_openOf 28 = .ok (.iload_n 1, 1) := by decide +kernel
theorem dX4_openOf_29 : decode cX4_openOf 29 = .ok (.if_icmp .ne 7, 3) := by decide +kernel
theorem dX4_openOf_32 : decode cX4_openOf 32 = .ok (.iconst 1, 1) := by decide +kernel
theorem dX4_openOf_33 : decode cX4_openOf 33 = .ok (.goto 4, 3) := by decide +kernel
theorem dX4_openOf_36 : decode cX4_openOf 36 = .ok (.iconst 0, 1) := by decide +kernel
theorem dX4_openOf_37 : decode cX4_openOf 37 = .ok (.iadd, 1) := by decide +kernel
theorem dX4_openOf_38 : decode cX4_openOf 38 = .ok (.istore_n 2, 1) := by decide +kernel
theorem dX4_openOf_39 : decode cX4_openOf 39 = .ok (.iinc 3 1, 3) := by decide +kernel
theorem dX4_openOf_42 : decode cX4_openOf 42 = .ok (.goto (-38), 3) := by decide +kernel
theorem dX4_openOf_45 : decode cX4_openOf 45 = .ok (.iload_n 2, 1) := by decide +kernel
theorem dX4_openOf_46 : decode cX4_openOf 46 = .ok (.ireturn, 1) := by decide +kernel
theorem dX4_bothOf_0 : decode cX4_bothOf 0 = .ok (.aload_n 0, 1) := by decide +kernel
theorem dX4_bothOf_1 : decode cX4_bothOf 1 = .ok (.getfield 20, 3) := by decide +kernel
theorem dX4_bothOf_4 : decode cX4_bothOf 4 = .ok (.iload_n 1, 1) := by decide +kernel
theorem dX4_bothOf_5 : decode cX4_bothOf 5 = .ok (.iaload, 1) := by decide +kernel
theorem dX4_bothOf_6 : decode cX4_bothOf 6 = .ok (.aload_n 0, 1) := by decide +kernel
theorem dX4_bothOf_7 : decode cX4_bothOf 7 = .ok (.getfield 112, 3) := by decide +kernel
theorem dX4_bothOf_10 : decode cX4_bothOf 10 = .ok (.ior, 1) := by decide +kernel
theorem dX4_bothOf_11 : decode cX4_bothOf 11 = .ok (.aload_n 0, 1) := by decide +kernel
theorem dX4_bothOf_12 : decode cX4_bothOf 12 = .ok (.getfield 23, 3) := by decide +kernel
theorem dX4_bothOf_15 : decode cX4_bothOf 15 = .ok (.iload_n 1, 1) := by decide +kernel
theorem dX4_bothOf_16 : decode cX4_bothOf 16 = .ok (.iaload, 1) := by decide +kernel
theorem dX4_bothOf_17 : decode cX4_bothOf 17 = .ok (.aload_n 0, 1) := by decide +kernel
theorem dX4_bothOf_18 : decode cX4_bothOf 18 = .ok (.getfield 115, 3) := by decide +kernel
theorem dX4_bothOf_21 : decode cX4_bothOf 21 = .ok (.ior, 1) := by decide +kernel
theorem dX4_bothOf_22 : decode cX4_bothOf 22 = .ok (.iand, 1) := by decide +kernel
theorem dX4_bothOf_23 : decode cX4_bothOf 23 = .ok (.ireturn, 1) := by decide +kernel
theorem dX4_told_0 : decode cX4_told 0 = .ok (.aload_n 0, 1) := by decide +kernel
theorem dX4_told_1 : decode cX4_told 1 = .ok (.iload_n 1, 1) := by decide +kernel
theorem dX4_told_2 : decode cX4_told 2 = .ok (.invokevirtual 103, 3) := by decide +kernel
theorem dX4_told_5 : decode cX4_told 5 = .ok (.ifCond .ne 6, 3) := by decide +kernel
theorem dX4_told_8 : decode cX4_told 8 = .ok (.ldc 107, 2) := by decide +kernel
theorem dX4_told_10 : decode cX4_told 10 = .ok (.ireturn, 1) := by decide +kernel
theorem dX4_told_11 : decode cX4_told 11 = .ok (.iload_n 2, 1) := by decide +kernel
theorem dX4_told_12 : decode cX4_told 12 = .ok (.tableswitch 91 0 6 #[44, 51, 58, 65, 72, 79, 85], 44) := by decide +kernel
theorem dX4_told_56 : decode cX4_told 56 = .ok (.aload_n 0, 1) := by decide +kernel
theorem dX4_told_57 : decode cX4_told 57 = .ok (.getfield 13, 3) := by decide +kernel
theorem dX4_told_60 : decode cX4_told 60 = .ok (.iload_n 1, 1) := by decide +kernel
theorem dX4_told_61 : decode cX4_told 61 = .ok (.iaload, 1) := by decide +kernel
theorem dX4_told_62 : decode cX4_told 62 = .ok (.ireturn, 1) := by decide +kernel
theorem dX4_told_63 : decode cX4_told 63 = .ok (.aload_n 0, 1) := by decide +kernel
theorem dX4_told_64 : decode cX4_told 64 = .ok (.getfield 17, 3) := by decide +kernel
theorem dX4_told_67 : decode cX4_told 67 = .ok (.iload_n 1, 1) := by decide +kernel
theorem dX4_told_68 : decode cX4_told 68 = .ok (.iaload, 1) := by decide +kernel
theorem dX4_told_69 : decode cX4_told 69 = .ok (.ireturn, 1) := by decide +kernel
theorem dX4_told_70 : decode cX4_told 70 = .ok (.aload_n 0, 1) := by decide +kernel
theorem dX4_told_71 : decode cX4_told 71 = .ok (.getfield 20, 3) := by decide +kernel
theorem dX4_told_74 : decode cX4_told 74 = .ok (.iload_n 1, 1) := by decide +kernel
theorem dX4_told_75 : decode cX4_told 75 = .ok (.iaload, 1) := by decide +kernel
theorem dX4_told_76 : decode cX4_told 76 = .ok (.ireturn, 1) := by decide +kernel
theorem dX4_told_77 : decode cX4_told 77 = .ok (.aload_n 0, 1) := by decide +kernel
theorem dX4_told_78 : decode cX4_told 78 = .ok (.getfield 23, 3) := by decide +kernel
theorem dX4_told_81 : decode cX4_told 81 = .ok (.iload_n 1, 1) := by decide +kernel
theorem dX4_told_82 : decode cX4_told 82 = .ok (.iaload, 1) := by decide +kernel
theorem dX4_told_83 : decode cX4_told 83 = .ok (.ireturn, 1) := by decide +kernel
theorem dX4_told_84 : decode cX4_told 84 = .ok (.aload_n 0, 1) := by decide +kernel
theorem dX4_told_85 : decode cX4_told 85 = .ok (.getfield 26, 3) := by decide +kernel
theorem dX4_told_88 : decode cX4_told 88 = .ok (.iload_n 1, 1) := by decide +kernel
theorem dX4_told_89 : decode cX4_told 89 = .ok (.iaload, 1) := by decide +kernel
theorem dX4_told_90 : decode cX4_told 90 = .ok (.ireturn, 1) := by decide +kernel
theorem dX4_told_91 : decode cX4_told 91 = .ok (.aload_n 0, 1) := by decide +kernel
theorem dX4_told_92 : decode cX4_told 92 = .ok (.iload_n 1, 1) := by decide +kernel
theorem dX4_told_93 : decode cX4_told 93 = .ok (.invokevirtual 118, 3) := by decide +kernel
theorem dX4_told_96 : decode cX4_told 96 = .ok (.ireturn, 1) := by decide +kernel
theorem dX4_told_97 : decode cX4_told 97 = .ok (.aload_n 0, 1) := by decide +kernel
theorem dX4_told_98 : decode cX4_told 98 = .ok (.iload_n 1, 1) := by decide +kernel
theorem dX4_told_99 : decode cX4_told 99 = .ok (.invokevirtual 122, 3) := by decide +kernel
theorem dX4_told_102 : decode cX4_told 102 = .ok (.ireturn, 1) := by decide +kernel
theorem dX4_told_103 : decode cX4_told 103 = .ok (.ldc 110, 2) := by decide +kernel
theorem dX4_told_105 : decode cX4_told 105 = .ok (.ireturn, 1) := by decide +kernel
theorem dX4_isSafe_0 : decode cX4_isSafe 0 = .ok (.iload_n 3, 1) := by decide +kernel
theorem dX4_isSafe_1 : decode cX4_isSafe 1 = .ok (.iload_n 2, 1) := by decide +kernel
theorem dX4_isSafe_2 : decode cX4_isSafe 2 = .ok (.iconst (-1), 1) := by decide +kernel
theorem dX4_isSafe_3 : decode cX4_isSafe 3 = .ok (.ixor, 1) := by decide +kernel
theorem dX4_isSafe_4 : decode cX4_isSafe 4 = .ok (.iand, 1) := by decide +kernel
theorem dX4_isSafe_5 : decode cX4_isSafe 5 = .ok (.aload_n 0, 1) := by decide +kernel
theorem dX4_isSafe_6 : decode cX4_isSafe 6 = .ok (.getfield 20, 3) := by decide +kernel
theorem dX4_isSafe_9 : decode cX4_isSafe 9 = .ok (.iload_n 1, 1) := by decide +kernel
theorem dX4_isSafe_10 : decode cX4_isSafe 10 = .ok (.iaload, 1) := by decide +kernel
theorem dX4_isSafe_11 : decode cX4_isSafe 11 = .ok (.aload_n 0, 1) := by decide +kernel
theorem dX4_isSafe_12 : decode cX4_isSafe 12 = .ok (.getfield 112, 3) := by decide +kernel
theorem dX4_isSafe_15 : decode cX4_isSafe 15 = .ok (.ior, 1) := by decide +kernel
theorem dX4_isSafe_16 : decode cX4_isSafe 16 = .ok (.iconst (-1), 1) := by decide +kernel
theorem dX4_isSafe_17 : decode cX4_isSafe 17 = .ok (.ixor, 1) := by decide +kernel
theorem dX4_isSafe_18 : decode cX4_isSafe 18 = .ok (.iand, 1) := by decide +kernel
theorem dX4_isSafe_19 : decode cX4_isSafe 19 = .ok (.ifCond .ne 29, 3) := by decide +kernel
theorem dX4_isSafe_22 : decode cX4_isSafe 22 = .ok (.iload_n 2, 1) := by decide +kernel
theorem dX4_isSafe_23 : decode cX4_isSafe 23 = .ok (.iload_n 3, 1) := by decide +kernel
theorem dX4_isSafe_24 : decode cX4_isSafe 24 = .ok (.iconst (-1), 1) := by decide +kernel
theorem dX4_isSafe_25 : decode cX4_isSafe 25 = .ok (.ixor, 1) := by decide +kernel
theorem dX4_isSafe_26 : decode cX4_isSafe 26 = .ok (.iand, 1) := by decide +kernel
theorem dX4_isSafe_27 : decode cX4_isSafe 27 = .ok (.aload_n 0, 1) := by decide +kernel
theorem dX4_isSafe_28 : decode cX4_isSafe 28 = .ok (.getfield 23, 3) := by decide +kernel
theorem dX4_isSafe_31 : decode cX4_isSafe 31 = .ok (.iload_n 1, 1) := by decide +kernel
theorem dX4_isSafe_32 : decode cX4_isSafe 32 = .ok (.iaload, 1) := by decide +kernel
theorem dX4_isSafe_33 : decode cX4_isSafe 33 = .ok (.aload_n 0, 1) := by decide +kernel
theorem dX4_isSafe_34 : decode cX4_isSafe 34 = .ok (.getfield 115, 3) := by decide +kernel
theorem dX4_isSafe_37 : decode cX4_isSafe 37 = .ok (.ior, 1) := by decide +kernel
theorem dX4_isSafe_38 : decode cX4_isSafe 38 = .ok (.iconst (-1), 1) := by decide +kernel
theorem dX4_isSafe_39 : decode cX4_isSafe 39 = .ok (.ixor, 1) := by decide +kernel
theorem dX4_isSafe_40 : decode cX4_isSafe 40 = .ok (.iand, 1) := by decide +kernel
theorem dX4_isSafe_41 : decode cX4_isSafe 41 = .ok (.ifCond .ne 7, 3) := by decide +kernel
theorem dX4_isSafe_44 : decode cX4_isSafe 44 = .ok (.iconst 1, 1) := by decide +kernel
theorem dX4_isSafe_45 : decode cX4_isSafe 45 = .ok (.goto 4, 3) := by decide +kernel
theorem dX4_isSafe_48 : decode cX4_isSafe 48 = .ok (.iconst 0, 1) := by decide +kernel
theorem dX4_isSafe_49 : decode cX4_isSafe 49 = .ok (.ireturn, 1) := by decide +kernel
theorem dX4_suits_0 : decode cX4_suits 0 = .ok (.aload_n 0, 1) := by decide +kernel
theorem dX4_suits_1 : decode cX4_suits 1 = .ok (.iload_n 1, 1) := by decide +kernel
theorem dX4_suits_2 : decode cX4_suits 2 = .ok (.invokevirtual 122, 3) := by decide +kernel
theorem dX4_suits_5 : decode cX4_suits 5 = .ok (.iconst (-1), 1) := by decide +kernel
theorem dX4_suits_6 : decode cX4_suits 6 = .ok (.ixor, 1) := by decide +kernel
theorem dX4_suits_7 : decode cX4_suits 7 = .ok (.istore 4, 2) := by decide +kernel
theorem dX4_suits_9 : decode cX4_suits 9 = .ok (.iload_n 2, 1) := by decide +kernel
theorem dX4_suits_10 : decode cX4_suits 10 = .ok (.aload_n 0, 1) := by decide +kernel
theorem dX4_suits_11 : decode cX4_suits 11 = .ok (.getfield 13, 3) := by decide +kernel
theorem dX4_suits_14 : decode cX4_suits 14 = .ok (.iload_n 1, 1) := by decide +kernel
theorem dX4_suits_15 : decode cX4_suits 15 = .ok (.iaload, 1) := by decide +kernel
theorem dX4_suits_16 : decode cX4_suits 16 = .ok (.ixor, 1) := by decide +kernel
theorem dX4_suits_17 : decode cX4_suits 17 = .ok (.iload 4, 2) := by decide +kernel
theorem dX4_suits_19 : decode cX4_suits 19 = .ok (.iand, 1) := by decide +kernel
theorem dX4_suits_20 : decode cX4_suits 20 = .ok (.ifCond .ne 21, 3) := by decide +kernel
theorem dX4_suits_23 : decode cX4_suits 23 = .ok (.iload_n 3, 1) := by decide +kernel
theorem dX4_suits_24 : decode cX4_suits 24 = .ok (.aload_n 0, 1) := by decide +kernel
theorem dX4_suits_25 : decode cX4_suits 25 = .ok (.getfield 17, 3) := by decide +kernel
theorem dX4_suits_28 : decode cX4_suits 28 = .ok (.iload_n 1, 1) := by decide +kernel
theorem dX4_suits_29 : decode cX4_suits 29 = .ok (.iaload, 1) := by decide +kernel
theorem dX4_suits_30 : decode cX4_suits 30 = .ok (.ixor, 1) := by decide +kernel
theorem dX4_suits_31 : decode cX4_suits 31 = .ok (.iload 4, 2) := by decide +kernel
theorem dX4_suits_33 : decode cX4_suits 33 = .ok (.iand, 1) := by decide +kernel
theorem dX4_suits_34 : decode cX4_suits 34 = .ok (.ifCond .ne 7, 3) := by decide +kernel
theorem dX4_suits_37 : decode cX4_suits 37 = .ok (.iconst 1, 1) := by decide +kernel
theorem dX4_suits_38 : decode cX4_suits 38 = .ok (.goto 4, 3) := by decide +kernel
theorem dX4_suits_41 : decode cX4_suits 41 = .ok (.iconst 0, 1) := by decide +kernel
theorem dX4_suits_42 : decode cX4_suits 42 = .ok (.ireturn, 1) := by decide +kernel
theorem dX4_suitAll_0 : decode cX4_suitAll 0 = .ok (.iconst 1, 1) := by decide +kernel
theorem dX4_suitAll_1 : decode cX4_suitAll 1 = .ok (.istore_n 2, 1) := by decide +kernel
theorem dX4_suitAll_2 : decode cX4_suitAll 2 = .ok (.iconst 0, 1) := by decide +kernel
theorem dX4_suitAll_3 : decode cX4_suitAll 3 = .ok (.istore_n 3, 1) := by decide +kernel
theorem dX4_suitAll_4 : decode cX4_suitAll 4 = .ok (.iload_n 3, 1) := by decide +kernel
theorem dX4_suitAll_5 : decode cX4_suitAll 5 = .ok (.aload_n 0, 1) := by decide +kernel
theorem dX4_suitAll_6 : decode cX4_suitAll 6 = .ok (.getfield 100, 3) := by decide +kernel
theorem dX4_suitAll_9 : decode cX4_suitAll 9 = .ok (.if_icmp .ge 58, 3) := by decide +kernel
theorem dX4_suitAll_12 : decode cX4_suitAll 12 = .ok (.iload_n 2, 1) := by decide +kernel
theorem dX4_suitAll_13 : decode cX4_suitAll 13 = .ok (.ifCond .eq 46, 3) := by decide +kernel
theorem dX4_suitAll_16 : decode cX4_suitAll 16 = .ok (.aload_n 0, 1) := by decide +kernel
theorem dX4_suitAll_17 : decode cX4_suitAll 17 = .ok (.getfield 32, 3) := by decide +kernel
theorem dX4_suitAll_20 : decode cX4_suitAll 20 = .ok (.iload_n 3, 1) := by decide +kernel
theorem dX4_suitAll_21 : decode cX4_suitAll 21 = .ok (.baload, 1) := by decide +kernel
theorem dX4_suitAll_22 : decode cX4_suitAll 22 = .ok (.ifCond .eq 33, 3) := by decide +kernel
theorem dX4_suitAll_25 : decode cX4_suitAll 25 = .ok (.aload_n 0, 1) := by decide +kernel
theorem dX4_suitAll_26 : decode cX4_suitAll 26 = .ok (.getfield 35, 3) := by decide +kernel
theorem dX4_suitAll_29 : decode cX4_suitAll 29 = .ok (.iload_n 3, 1) := by decide +kernel
theorem dX4_suitAll_30 : decode cX4_suitAll 30 = .ok (.iaload, 1) := by decide +kernel
theorem dX4_suitAll_31 : decode cX4_suitAll 31 = .ok (.iload_n 1, 1) := by decide +kernel
theorem dX4_suitAll_32 : decode cX4_suitAll 32 = .ok (.if_icmp .ne 23, 3) := by decide +kernel
theorem dX4_suitAll_35 : decode cX4_suitAll 35 = .ok (.aload_n 0, 1) := by decide +kernel
theorem dX4_suitAll_36 : decode cX4_suitAll 36 = .ok (.iload_n 1, 1) := by decide +kernel
theorem dX4_suitAll_37 : decode cX4_suitAll 37 = .ok (.aload_n 0, 1) := by decide +kernel
theorem dX4_suitAll_38 : decode cX4_suitAll 38 = .ok (.getfield 38, 3) := by decide +kernel
theorem dX4_suitAll_41 : decode cX4_suitAll 41 = .ok (.iload_n 3, 1) := by decide +kernel
theorem dX4_suitAll_42 : decode cX4_suitAll 42 = .ok (.iaload, 1) := by decide +kernel
theorem dX4_suitAll_43 : decode cX4_suitAll 43 = .ok (.aload_n 0, 1) := by decide +kernel
theorem dX4_suitAll_44 : decode cX4_suitAll 44 = .ok (.getfield 41, 3) := by decide +kernel
theorem dX4_suitAll_47 : decode cX4_suitAll 47 = .ok (.iload_n 3, 1) := by decide +kernel
theorem dX4_suitAll_48 : decode cX4_suitAll 48 = .ok (.iaload, 1) := by decide +kernel
theorem dX4_suitAll_49 : decode cX4_suitAll 49 = .ok (.invokevirtual 125, 3) := by decide +kernel
theorem dX4_suitAll_52 : decode cX4_suitAll 52 = .ok (.ifCond .eq 7, 3) := by decide +kernel
theorem dX4_suitAll_55 : decode cX4_suitAll 55 = .ok (.iconst 1, 1) := by decide +kernel
theorem dX4_suitAll_56 : decode cX4_suitAll 56 = .ok (.goto 4, 3) := by decide +kernel
theorem dX4_suitAll_59 : decode cX4_suitAll 59 = .ok (.iconst 0, 1) := by decide +kernel
theorem dX4_suitAll_60 : decode cX4_suitAll 60 = .ok (.istore_n 2, 1) := by decide +kernel
theorem dX4_suitAll_61 : decode cX4_suitAll 61 = .ok (.iinc 3 1, 3) := by decide +kernel
theorem dX4_suitAll_64 : decode cX4_suitAll 64 = .ok (.goto (-60), 3) := by decide +kernel
theorem dX4_suitAll_67 : decode cX4_suitAll 67 = .ok (.iload_n 2, 1) := by decide +kernel
theorem dX4_suitAll_68 : decode cX4_suitAll 68 = .ok (.ireturn, 1) := by decide +kernel
theorem dX4_label_0 : decode cX4_label 0 = .ok (.aload_n 0, 1) := by decide +kernel
theorem dX4_label_1 : decode cX4_label 1 = .ok (.iload_n 1, 1) := by decide +kernel
theorem dX4_label_2 : decode cX4_label 2 = .ok (.invokevirtual 103, 3) := by decide +kernel
theorem dX4_label_5 : decode cX4_label 5 = .ok (.ifCond .ne 6, 3) := by decide +kernel
theorem dX4_label_8 : decode cX4_label 8 = .ok (.ldc 107, 2) := by decide +kernel
theorem dX4_label_10 : decode cX4_label 10 = .ok (.ireturn, 1) := by decide +kernel
theorem dX4_label_11 : decode cX4_label 11 = .ok (.iload_n 2, 1) := by decide +kernel
theorem dX4_label_12 : decode cX4_label 12 = .ok (.i2l, 1) := by decide +kernel
theorem dX4_label_13 : decode cX4_label 13 = .ok (.lconst 0, 1) := by decide +kernel
theorem dX4_label_14 : decode cX4_label 14 = .ok (.lconst 1, 1) := by decide +kernel
theorem dX4_label_15 : decode cX4_label 15 = .ok (.invokestatic 93, 3) := by decide +kernel
theorem dX4_label_18 : decode cX4_label 18 = .ok (.ifCond .eq 11, 3) := by decide +kernel
theorem dX4_label_21 : decode cX4_label 21 = .ok (.aload_n 0, 1) := by decide +kernel
theorem dX4_label_22 : decode cX4_label 22 = .ok (.iload_n 3, 1) := by decide +kernel
theorem dX4_label_23 : decode cX4_label 23 = .ok (.invokevirtual 129, 3) := by decide +kernel
theorem dX4_label_26 : decode cX4_label 26 = .ok (.ifCond .ne 6, 3) := by decide +kernel
theorem dX4_label_29 : decode cX4_label 29 = .ok (.ldc 110, 2) := by decide +kernel
theorem dX4_label_31 : decode cX4_label 31 = .ok (.ireturn, 1) := by decide +kernel
theorem dX4_label_32 : decode cX4_label 32 = .ok (.iload_n 2, 1) := by decide +kernel
theorem dX4_label_33 : decode cX4_label 33 = .ok (.ifCond .ne 12, 3) := by decide +kernel
theorem dX4_label_36 : decode cX4_label 36 = .ok (.aload_n 0, 1) := by decide +kernel
theorem dX4_label_37 : decode cX4_label 37 = .ok (.getfield 13, 3) := by decide +kernel
theorem dX4_label_40 : decode cX4_label 40 = .ok (.iload_n 1, 1) := by decide +kernel
theorem dX4_label_41 : decode cX4_label 41 = .ok (.iaload, 1) := by decide +kernel
theorem dX4_label_42 : decode cX4_label 42 = .ok (.goto 9, 3) := by decide +kernel
theorem dX4_label_45 : decode cX4_label 45 = .ok (.aload_n 0, 1) := by decide +kernel
theorem dX4_label_46 : decode cX4_label 46 = .ok (.getfield 17, 3) := by decide +kernel
theorem dX4_label_49 : decode cX4_label 49 = .ok (.iload_n 1, 1) := by decide +kernel
theorem dX4_label_50 : decode cX4_label 50 = .ok (.iaload, 1) := by decide +kernel
theorem dX4_label_51 : decode cX4_label 51 = .ok (.istore 4, 2) := by decide +kernel
theorem dX4_label_53 : decode cX4_label 53 = .ok (.aload_n 0, 1) := by decide +kernel
theorem dX4_label_54 : decode cX4_label 54 = .ok (.iload_n 1, 1) := by decide +kernel
theorem dX4_label_55 : decode cX4_label 55 = .ok (.iload 4, 2) := by decide +kernel
theorem dX4_label_57 : decode cX4_label 57 = .ok (.iload_n 3, 1) := by decide +kernel
theorem dX4_label_58 : decode cX4_label 58 = .ok (.invokevirtual 132, 3) := by decide +kernel
theorem dX4_label_61 : decode cX4_label 61 = .ok (.ifCond .ne 6, 3) := by decide +kernel
theorem dX4_label_64 : decode cX4_label 64 = .ok (.ldc 135, 2) := by decide +kernel
theorem dX4_label_66 : decode cX4_label 66 = .ok (.ireturn, 1) := by decide +kernel
theorem dX4_label_67 : decode cX4_label 67 = .ok (.aload_n 0, 1) := by decide +kernel
theorem dX4_label_68 : decode cX4_label 68 = .ok (.iload_n 1, 1) := by decide +kernel
theorem dX4_label_69 : decode cX4_label 69 = .ok (.iload_n 2, 1) := by decide +kernel
theorem dX4_label_70 : decode cX4_label 70 = .ok (.iload_n 3, 1) := by decide +kernel
theorem dX4_label_71 : decode cX4_label 71 = .ok (.invokevirtual 136, 3) := by decide +kernel
theorem dX4_label_74 : decode cX4_label 74 = .ok (.aload_n 0, 1) := by decide +kernel
theorem dX4_label_75 : decode cX4_label 75 = .ok (.iload_n 1, 1) := by decide +kernel
theorem dX4_label_76 : decode cX4_label 76 = .ok (.invokevirtual 140, 3) := by decide +kernel
theorem dX4_label_79 : decode cX4_label 79 = .ok (.ifCond .ne 14, 3) := by decide +kernel
theorem dX4_label_82 : decode cX4_label 82 = .ok (.aload_n 0, 1) := by decide +kernel
theorem dX4_label_83 : decode cX4_label 83 = .ok (.iload_n 1, 1) := by decide +kernel
theorem dX4_label_84 : decode cX4_label 84 = .ok (.iload_n 2, 1) := by decide +kernel
theorem dX4_label_85 : decode cX4_label 85 = .ok (.iload 4, 2) := by decide +kernel
theorem dX4_label_87 : decode cX4_label 87 = .ok (.invokevirtual 136, 3) := by decide +kernel
theorem dX4_label_90 : decode cX4_label 90 = .ok (.ldc 135, 2) := by decide +kernel
theorem dX4_label_92 : decode cX4_label 92 = .ok (.ireturn, 1) := by decide +kernel
theorem dX4_label_93 : decode cX4_label 93 = .ok (.iload 4, 2) := by decide +kernel
theorem dX4_label_95 : decode cX4_label 95 = .ok (.ireturn, 1) := by decide +kernel
theorem dX4_putLabel_0 : decode cX4_putLabel 0 = .ok (.iload_n 2, 1) := by decide +kernel
theorem dX4_putLabel_1 : decode cX4_putLabel 1 = .ok (.ifCond .ne 13, 3) := by decide +kernel
theorem dX4_putLabel_4 : decode cX4_putLabel 4 = .ok (.aload_n 0, 1) := by decide +kernel
theorem dX4_putLabel_5 : decode cX4_putLabel 5 = .ok (.getfield 13, 3) := by decide +kernel
theorem dX4_putLabel_8 : decode cX4_putLabel 8 = .ok (.iload_n 1, 1) := by decide +kernel
theorem dX4_putLabel_9 : decode cX4_putLabel 9 = .ok (.iload_n 3, 1) := by decide +kernel
theorem dX4_putLabel_10 : decode cX4_putLabel 10 = .ok (.iastore, 1) := by decide +kernel
theorem dX4_putLabel_11 : decode cX4_putLabel 11 = .ok (.goto 10, 3) := by decide +kernel
theorem dX4_putLabel_14 : decode cX4_putLabel 14 = .ok (.aload_n 0, 1) := by decide +kernel
theorem dX4_putLabel_15 : decode cX4_putLabel 15 = .ok (.getfield 17, 3) := by decide +kernel
theorem dX4_putLabel_18 : decode cX4_putLabel 18 = .ok (.iload_n 1, 1) := by decide +kernel
theorem dX4_putLabel_19 : decode cX4_putLabel 19 = .ok (.iload_n 3, 1) := by decide +kernel
theorem dX4_putLabel_20 : decode cX4_putLabel 20 = .ok (.iastore, 1) := by decide +kernel
theorem dX4_putLabel_21 : decode cX4_putLabel 21 = .ok (.return_, 1) := by decide +kernel
theorem dX4_drop_0 : decode cX4_drop 0 = .ok (.aload_n 0, 1) := by decide +kernel
theorem dX4_drop_1 : decode cX4_drop 1 = .ok (.iload_n 1, 1) := by decide +kernel
theorem dX4_drop_2 : decode cX4_drop 2 = .ok (.invokevirtual 103, 3) := by decide +kernel
theorem dX4_drop_5 : decode cX4_drop 5 = .ok (.ifCond .ne 6, 3) := by decide +kernel
theorem dX4_drop_8 : decode cX4_drop 8 = .ok (.ldc 107, 2) := by decide +kernel
theorem dX4_drop_10 : decode cX4_drop 10 = .ok (.ireturn, 1) := by decide +kernel
theorem dX4_drop_11 : decode cX4_drop 11 = .ok (.iload_n 2, 1) := by decide +kernel
theorem dX4_drop_12 : decode cX4_drop 12 = .ok (.i2l, 1) := by decide +kernel
theorem dX4_drop_13 : decode cX4_drop 13 = .ok (.lconst 0, 1) := by decide +kernel
theorem dX4_drop_14 : decode cX4_drop 14 = .ok (.lconst 1, 1) := by decide +kernel
theorem dX4_drop_15 : decode cX4_drop 15 = .ok (.invokestatic 93, 3) := by decide +kernel
theorem dX4_drop_18 : decode cX4_drop 18 = .ok (.ifCond .eq 11, 3) := by decide +kernel
theorem dX4_drop_21 : decode cX4_drop 21 = .ok (.aload_n 0, 1) := by decide +kernel
theorem dX4_drop_22 : decode cX4_drop 22 = .ok (.iload_n 3, 1) := by decide +kernel
theorem dX4_drop_23 : decode cX4_drop 23 = .ok (.invokevirtual 129, 3) := by decide +kernel
theorem dX4_drop_26 : decode cX4_drop 26 = .ok (.ifCond .ne 6, 3) := by decide +kernel
theorem dX4_drop_29 : decode cX4_drop 29 = .ok (.ldc 110, 2) := by decide +kernel
theorem dX4_drop_31 : decode cX4_drop 31 = .ok (.ireturn, 1) := by decide +kernel
theorem dX4_drop_32 : decode cX4_drop 32 = .ok (.aload_n 0, 1) := by decide +kernel
theorem dX4_drop_33 : decode cX4_drop 33 = .ok (.getfield 20, 3) := by decide +kernel
theorem dX4_drop_36 : decode cX4_drop 36 = .ok (.iload_n 1, 1) := by decide +kernel
theorem dX4_drop_37 : decode cX4_drop 37 = .ok (.iaload, 1) := by decide +kernel
theorem dX4_drop_38 : decode cX4_drop 38 = .ok (.istore 4, 2) := by decide +kernel
theorem dX4_drop_40 : decode cX4_drop 40 = .ok (.aload_n 0, 1) := by decide +kernel
theorem dX4_drop_41 : decode cX4_drop 41 = .ok (.getfield 23, 3) := by decide +kernel
theorem dX4_drop_44 : decode cX4_drop 44 = .ok (.iload_n 1, 1) := by decide +kernel
theorem dX4_drop_45 : decode cX4_drop 45 = .ok (.iaload, 1) := by decide +kernel
theorem dX4_drop_46 : decode cX4_drop 46 = .ok (.istore 5, 2) := by decide +kernel
theorem dX4_drop_48 : decode cX4_drop 48 = .ok (.iload_n 2, 1) := by decide +kernel
theorem dX4_drop_49 : decode cX4_drop 49 = .ok (.ifCond .ne 18, 3) := by decide +kernel
theorem dX4_drop_52 : decode cX4_drop 52 = .ok (.aload_n 0, 1) := by decide +kernel
theorem dX4_drop_53 : decode cX4_drop 53 = .ok (.getfield 20, 3) := by decide +kernel
theorem dX4_drop_56 : decode cX4_drop 56 = .ok (.iload_n 1, 1) := by decide +kernel
theorem dX4_drop_57 : decode cX4_drop 57 = .ok (.dup2, 1) := by decide +kernel
theorem dX4_drop_58 : decode cX4_drop 58 = .ok (.iaload, 1) := by decide +kernel
theorem dX4_drop_59 : decode cX4_drop 59 = .ok (.iload_n 3, 1) := by decide +kernel
theorem dX4_drop_60 : decode cX4_drop 60 = .ok (.iconst (-1), 1) := by decide +kernel
theorem dX4_drop_61 : decode cX4_drop 61 = .ok (.ixor, 1) := by decide +kernel
theorem dX4_drop_62 : decode cX4_drop 62 = .ok (.iand, 1) := by decide +kernel
theorem dX4_drop_63 : decode cX4_drop 63 = .ok (.iastore, 1) := by decide +kernel
theorem dX4_drop_64 : decode cX4_drop 64 = .ok (.goto 15, 3) := by decide +kernel
theorem dX4_drop_67 : decode cX4_drop 67 = .ok (.aload_n 0, 1) := by decide +kernel
theorem dX4_drop_68 : decode cX4_drop 68 = .ok (.getfield 23, 3) := by decide +kernel
theorem dX4_drop_71 : decode cX4_drop 71 = .ok (.iload_n 1, 1) := by decide +kernel
theorem dX4_drop_72 : decode cX4_drop 72 = .ok (.dup2, 1) := by decide +kernel
theorem dX4_drop_73 : decode cX4_drop 73 = .ok (.iaload, 1) := by decide +kernel
theorem dX4_drop_74 : decode cX4_drop 74 = .ok (.iload_n 3, 1) := by decide +kernel
theorem dX4_drop_75 : decode cX4_drop 75 = .ok (.iconst (-1), 1) := by decide +kernel
theorem dX4_drop_76 : decode cX4_drop 76 = .ok (.ixor, 1) := by decide +kernel
theorem dX4_drop_77 : decode cX4_drop 77 = .ok (.iand, 1) := by decide +kernel
theorem dX4_drop_78 : decode cX4_drop 78 = .ok (.iastore, 1) := by decide +kernel
theorem dX4_drop_79 : decode cX4_drop 79 = .ok (.aload_n 0, 1) := by decide +kernel
theorem dX4_drop_80 : decode cX4_drop 80 = .ok (.iload_n 1, 1) := by decide +kernel
theorem dX4_drop_81 : decode cX4_drop 81 = .ok (.invokevirtual 140, 3) := by decide +kernel
theorem dX4_drop_84 : decode cX4_drop 84 = .ok (.ifCond .ne 22, 3) := by decide +kernel
theorem dX4_drop_87 : decode cX4_drop 87 = .ok (.aload_n 0, 1) := by decide +kernel
theorem dX4_drop_88 : decode cX4_drop 88 = .ok (.getfield 20, 3) := by decide +kernel
theorem dX4_drop_91 : decode cX4_drop 91 = .ok (.iload_n 1, 1) := by decide +kernel
theorem dX4_drop_92 : decode cX4_drop 92 = .ok (.iload 4, 2) := by decide +kernel
theorem dX4_drop_94 : decode cX4_drop 94 = .ok (.iastore, 1) := by decide +kernel
theorem dX4_drop_95 : decode cX4_drop 95 = .ok (.aload_n 0, 1) := by decide +kernel
theorem dX4_drop_96 : decode cX4_drop 96 = .ok (.getfield 23, 3) := by decide +kernel
theorem dX4_drop_99 : decode cX4_drop 99 = .ok (.iload_n 1, 1) := by decide +kernel
theorem dX4_drop_100 : decode cX4_drop 100 = .ok (.iload 5, 2) := by decide +kernel
theorem dX4_drop_102 : decode cX4_drop 102 = .ok (.iastore, 1) := by decide +kernel
theorem dX4_drop_103 : decode cX4_drop 103 = .ok (.ldc 135, 2) := by decide +kernel
theorem dX4_drop_105 : decode cX4_drop 105 = .ok (.ireturn, 1) := by decide +kernel
theorem dX4_drop_106 : decode cX4_drop 106 = .ok (.iload_n 2, 1) := by decide +kernel
theorem dX4_drop_107 : decode cX4_drop 107 = .ok (.ifCond .ne 12, 3) := by decide +kernel
theorem dX4_drop_110 : decode cX4_drop 110 = .ok (.aload_n 0, 1) := by decide +kernel
theorem dX4_drop_111 : decode cX4_drop 111 = .ok (.getfield 20, 3) := by decide +kernel
theorem dX4_drop_114 : decode cX4_drop 114 = .ok (.iload_n 1, 1) := by decide +kernel
theorem dX4_drop_115 : decode cX4_drop 115 = .ok (.iaload, 1) := by decide +kernel
theorem dX4_drop_116 : decode cX4_drop 116 = .ok (.goto 9, 3) := by decide +kernel
theorem dX4_drop_119 : decode cX4_drop 119 = .ok (.aload_n 0, 1) := by decide +kernel
theorem dX4_drop_120 : decode cX4_drop 120 = .ok (.getfield 23, 3) := by decide +kernel
theorem dX4_drop_123 : decode cX4_drop 123 = .ok (.iload_n 1, 1) := by decide +kernel
theorem dX4_drop_124 : decode cX4_drop 124 = .ok (.iaload, 1) := by decide +kernel
theorem dX4_drop_125 : decode cX4_drop 125 = .ok (.ireturn, 1) := by decide +kernel
theorem dX4_spawn_0 : decode cX4_spawn 0 = .ok (.aload_n 0, 1) := by decide +kernel
theorem dX4_spawn_1 : decode cX4_spawn 1 = .ok (.iload_n 1, 1) := by decide +kernel
theorem dX4_spawn_2 : decode cX4_spawn 2 = .ok (.invokevirtual 103, 3) := by decide +kernel
theorem dX4_spawn_5 : decode cX4_spawn 5 = .ok (.ifCond .ne 6, 3) := by decide +kernel
theorem dX4_spawn_8 : decode cX4_spawn 8 = .ok (.ldc 107, 2) := by decide +kernel
theorem dX4_spawn_10 : decode cX4_spawn 10 = .ok (.ireturn, 1) := by decide +kernel
theorem dX4_spawn_11 : decode cX4_spawn 11 = .ok (.aload_n 0, 1) := by decide +kernel
theorem dX4_spawn_12 : decode cX4_spawn 12 = .ok (.iload_n 2, 1) := by decide +kernel
theorem dX4_spawn_13 : decode cX4_spawn 13 = .ok (.invokevirtual 129, 3) := by decide +kernel
theorem dX4_spawn_16 : decode cX4_spawn 16 = .ok (.ifCond .eq 29, 3) := by decide +kernel
theorem dX4_spawn_19 : decode cX4_spawn 19 = .ok (.aload_n 0, 1) := by decide +kernel
theorem dX4_spawn_20 : decode cX4_spawn 20 = .ok (.iload_n 3, 1) := by decide +kernel
theorem dX4_spawn_21 : decode cX4_spawn 21 = .ok (.invokevirtual 129, 3) := by decide +kernel
theorem dX4_spawn_24 : decode cX4_spawn 24 = .ok (.ifCond .eq 21, 3) := by decide +kernel
theorem dX4_spawn_27 : decode cX4_spawn 27 = .ok (.aload_n 0, 1) := by decide +kernel
theorem dX4_spawn_28 : decode cX4_spawn 28 = .ok (.iload 4, 2) := by decide +kernel
theorem dX4_spawn_30 : decode cX4_spawn 30 = .ok (.invokevirtual 129, 3) := by decide +kernel
theorem dX4_spawn_33 : decode cX4_spawn 33 = .ok (.ifCond .eq 12, 3) := by decide +kernel
theorem dX4_spawn_36 : decode cX4_spawn 36 = .ok (.aload_n 0, 1) := by decide +kernel
theorem dX4_spawn_37 : decode cX4_spawn 37 = .ok (.iload 5, 2) := by decide +kernel
theorem dX4_spawn_39 : decode cX4_spawn 39 = .ok (.invokevirtual 129, 3) := by decide +kernel
theorem dX4_spawn_42 : decode cX4_spawn 42 = .ok (.ifCond .ne 6, 3) := by decide +kernel
theorem dX4_spawn_45 : decode cX4_spawn 45 = .ok (.ldc 110, 2) := by decide +kernel
theorem dX4_spawn_47 : decode cX4_spawn 47 = .ok (.ireturn, 1) := by decide +kernel
theorem dX4_spawn_48 : decode cX4_spawn 48 = .ok (.aload_n 0, 1) := by decide +kernel
theorem dX4_spawn_49 : decode cX4_spawn 49 = .ok (.iload_n 1, 1) := by decide +kernel
theorem dX4_spawn_50 : decode cX4_spawn 50 = .ok (.aload_n 0, 1) := by decide +kernel
theorem dX4_spawn_51 : decode cX4_spawn 51 = .ok (.getfield 13, 3) := by decide +kernel
theorem dX4_spawn_54 : decode cX4_spawn 54 = .ok (.iload_n 1, 1) := by decide +kernel
theorem dX4_spawn_55 : decode cX4_spawn 55 = .ok (.iaload, 1) := by decide +kernel
theorem dX4_spawn_56 : decode cX4_spawn 56 = .ok (.iload_n 2, 1) := by decide +kernel
theorem dX4_spawn_57 : decode cX4_spawn 57 = .ok (.invokevirtual 132, 3) := by decide +kernel
theorem dX4_spawn_60 : decode cX4_spawn 60 = .ok (.ifCond .eq 46, 3) := by decide +kernel
theorem dX4_spawn_63 : decode cX4_spawn 63 = .ok (.aload_n 0, 1) := by decide +kernel
theorem dX4_spawn_64 : decode cX4_spawn 64 = .ok (.iload_n 1, 1) := by decide +kernel
theorem dX4_spawn_65 : decode cX4_spawn 65 = .ok (.aload_n 0, 1) := by decide +kernel
theorem dX4_spawn_66 : decode cX4_spawn 66 = .ok (.getfield 17, 3) := by decide +kernel
theorem dX4_spawn_69 : decode cX4_spawn 69 = .ok (.iload_n 1, 1) := by decide +kernel
theorem dX4_spawn_70 : decode cX4_spawn 70 = .ok (.iaload, 1) := by decide +kernel
theorem dX4_spawn_71 : decode cX4_spawn 71 = .ok (.iload_n 3, 1) := by decide +kernel
theorem dX4_spawn_72 : decode cX4_spawn 72 = .ok (.invokevirtual 132, 3) := by decide +kernel
theorem dX4_spawn_75 : decode cX4_spawn 75 = .ok (.ifCond .eq 31, 3) := by decide +kernel
theorem dX4_spawn_78 : decode cX4_spawn 78 = .ok (.iload 4, 2) := by decide +kernel
theorem dX4_spawn_80 : decode cX4_spawn 80 = .ok (.aload_n 0, 1) := by decide +kernel
theorem dX4_spawn_81 : decode cX4_spawn 81 = .ok (.getfield 20, 3) := by decide +kernel
theorem dX4_spawn_84 : decode cX4_spawn 84 = .ok (.iload_n 1, 1) := by decide +kernel
theorem dX4_spawn_85 : decode cX4_spawn 85 = .ok (.iaload, 1) := by decide +kernel
theorem dX4_spawn_86 : decode cX4_spawn 86 = .ok (.iconst (-1), 1) := by decide +kernel
theorem dX4_spawn_87 : decode cX4_spawn 87 = .ok (.ixor, 1) := by decide +kernel
theorem dX4_spawn_88 : decode cX4_spawn 88 = .ok (.iand, 1) := by decide +kernel
theorem dX4_spawn_89 : decode cX4_spawn 89 = .ok (.ifCond .ne 17, 3) := by decide +kernel
theorem dX4_spawn_92 : decode cX4_spawn 92 = .ok (.iload 5, 2) := by decide +kernel
theorem dX4_spawn_94 : decode cX4_spawn 94 = .ok (.aload_n 0, 1) := by decide +kernel
theorem dX4_spawn_95 : decode cX4_spawn 95 = .ok (.getfield 23, 3) := by decide +kernel
theorem dX4_spawn_98 : decode cX4_spawn 98 = .ok (.iload_n 1, 1) := by decide +kernel
theorem dX4_spawn_99 : decode cX4_spawn 99 = .ok (.iaload, 1) := by decide +kernel
theorem dX4_spawn_100 : decode cX4_spawn 100 = .ok (.iconst (-1), 1) := by decide +kernel
theorem dX4_spawn_101 : decode cX4_spawn 101 = .ok (.ixor, 1) := by decide +kernel
theorem dX4_spawn_102 : decode cX4_spawn 102 = .ok (.iand, 1) := by decide +kernel
theorem dX4_spawn_103 : decode cX4_spawn 103 = .ok (.ifCond .eq 6, 3) := by decide +kernel
theorem dX4_spawn_106 : decode cX4_spawn 106 = .ok (.ldc 135, 2) := by decide +kernel
theorem dX4_spawn_108 : decode cX4_spawn 108 = .ok (.ireturn, 1) := by decide +kernel
theorem dX4_spawn_109 : decode cX4_spawn 109 = .ok (.aload_n 0, 1) := by decide +kernel
theorem dX4_spawn_110 : decode cX4_spawn 110 = .ok (.getfield 84, 3) := by decide +kernel
theorem dX4_spawn_113 : decode cX4_spawn 113 = .ok (.bipush 24, 2) := by decide +kernel
theorem dX4_spawn_115 : decode cX4_spawn 115 = .ok (.if_icmp .ne 6, 3) := by decide +kernel
theorem dX4_spawn_118 : decode cX4_spawn 118 = .ok (.ldc 111, 2) := by decide +kernel
theorem dX4_spawn_120 : decode cX4_spawn 120 = .ok (.ireturn, 1) := by decide +kernel
theorem dX4_spawn_121 : decode cX4_spawn 121 = .ok (.aload_n 0, 1) := by decide +kernel
theorem dX4_spawn_122 : decode cX4_spawn 122 = .ok (.getfield 84, 3) := by decide +kernel
theorem dX4_spawn_125 : decode cX4_spawn 125 = .ok (.istore 6, 2) := by decide +kernel
theorem dX4_spawn_127 : decode cX4_spawn 127 = .ok (.aload_n 0, 1) := by decide +kernel
theorem dX4_spawn_128 : decode cX4_spawn 128 = .ok (.getfield 7, 3) := by decide +kernel
theorem dX4_spawn_131 : decode cX4_spawn 131 = .ok (.iload 6, 2) := by decide +kernel
theorem dX4_spawn_133 : decode cX4_spawn 133 = .ok (.iconst 1, 1) := by decide +kernel
theorem dX4_spawn_134 : decode cX4_spawn 134 = .ok (.bastore, 1) := by decide +kernel
theorem dX4_spawn_135 : decode cX4_spawn 135 = .ok (.aload_n 0, 1) := by decide +kernel
theorem dX4_spawn_136 : decode cX4_spawn 136 = .ok (.getfield 13, 3) := by decide +kernel
theorem dX4_spawn_139 : decode cX4_spawn 139 = .ok (.iload 6, 2) := by decide +kernel
theorem dX4_spawn_141 : decode cX4_spawn 141 = .ok (.iload_n 2, 1) := by decide +kernel
theorem dX4_spawn_142 : decode cX4_spawn 142 = .ok (.iastore, 1) := by decide +kernel
theorem dX4_spawn_143 : decode cX4_spawn 143 = .ok (.aload_n 0, 1) := by decide +kernel
theorem dX4_spawn_144 : decode cX4_spawn 144 = .ok (.getfield 17, 3) := by decide +kernel
theorem dX4_spawn_147 : decode cX4_spawn 147 = .ok (.iload 6, 2) := by decide +kernel
theorem dX4_spawn_149 : decode cX4_spawn 149 = .ok (.iload_n 3, 1) := by decide +kernel
theorem dX4_spawn_150 : decode cX4_spawn 150 = .ok (.iastore, 1) := by decide +kernel
theorem dX4_spawn_151 : decode cX4_spawn 151 = .ok (.aload_n 0, 1) := by decide +kernel
theorem dX4_spawn_152 : decode cX4_spawn 152 = .ok (.getfield 20, 3) := by decide +kernel
theorem dX4_spawn_155 : decode cX4_spawn 155 = .ok (.iload 6, 2) := by decide +kernel
theorem dX4_spawn_157 : decode cX4_spawn 157 = .ok (.iload 4, 2) := by decide +kernel
theorem dX4_spawn_159 : decode cX4_spawn 159 = .ok (.iastore, 1) := by decide +kernel
theorem dX4_spawn_160 : decode cX4_spawn 160 = .ok (.aload_n 0, 1) := by decide +kernel
theorem dX4_spawn_161 : decode cX4_spawn 161 = .ok (.getfield 23, 3) := by decide +kernel
theorem dX4_spawn_164 : decode cX4_spawn 164 = .ok (.iload 6, 2) := by decide +kernel
theorem dX4_spawn_166 : decode cX4_spawn 166 = .ok (.iload 5, 2) := by decide +kernel
theorem dX4_spawn_168 : decode cX4_spawn 168 = .ok (.iastore, 1) := by decide +kernel
theorem dX4_spawn_169 : decode cX4_spawn 169 = .ok (.aload_n 0, 1) := by decide +kernel
theorem dX4_spawn_170 : decode cX4_spawn 170 = .ok (.getfield 26, 3) := by decide +kernel
theorem dX4_spawn_173 : decode cX4_spawn 173 = .ok (.iload 6, 2) := by decide +kernel
theorem dX4_spawn_175 : decode cX4_spawn 175 = .ok (.iload_n 1, 1) := by decide +kernel
theorem dX4_spawn_176 : decode cX4_spawn 176 = .ok (.iastore, 1) := by decide +kernel
theorem dX4_spawn_177 : decode cX4_spawn 177 = .ok (.iconst 0, 1) := by decide +kernel
theorem dX4_spawn_178 : decode cX4_spawn 178 = .ok (.istore 7, 2) := by decide +kernel
theorem dX4_spawn_180 : decode cX4_spawn 180 = .ok (.iload 7, 2) := by decide +kernel
theorem dX4_spawn_182 : decode cX4_spawn 182 = .ok (.iconst 3, 1) := by decide +kernel
theorem dX4_spawn_183 : decode cX4_spawn 183 = .ok (.if_icmp .ge 22, 3) := by decide +kernel
theorem dX4_spawn_186 : decode cX4_spawn 186 = .ok (.aload_n 0, 1) := by decide +kernel
theorem dX4_spawn_187 : decode cX4_spawn 187 = .ok (.getfield 29, 3) := by decide +kernel
theorem dX4_spawn_190 : decode cX4_spawn 190 = .ok (.iconst 3, 1) := by decide +kernel
theorem dX4_spawn_191 : decode cX4_spawn 191 = .ok (.iload 6, 2) := by decide +kernel
theorem dX4_spawn_193 : decode cX4_spawn 193 = .ok (.imul, 1) := by decide +kernel
theorem dX4_spawn_194 : decode cX4_spawn 194 = .ok (.iload 7, 2) := by decide +kernel
theorem dX4_spawn_196 : decode cX4_spawn 196 = .ok (.iadd, 1) := by decide +kernel
theorem dX4_spawn_197 : decode cX4_spawn 197 = .ok (.iconst 0, 1) := by decide +kernel
theorem dX4_spawn_198 : decode cX4_spawn 198 = .ok (.iastore, 1) := by decide +kernel
theorem dX4_spawn_199 : decode cX4_spawn 199 = .ok (.iinc 7 1, 3) := by decide +kernel
theorem dX4_spawn_202 : decode cX4_spawn 202 = .ok (.goto (-22), 3) := by decide +kernel
theorem dX4_spawn_205 : decode cX4_spawn 205 = .ok (.aload_n 0, 1) := by decide +kernel
theorem dX4_spawn_206 : decode cX4_spawn 206 = .ok (.dup, 1) := by decide +kernel
theorem dX4_spawn_207 : decode cX4_spawn 207 = .ok (.getfield 84, 3) := by decide +kernel
theorem dX4_spawn_210 : decode cX4_spawn 210 = .ok (.iconst 1, 1) := by decide +kernel
theorem dX4_spawn_211 : decode cX4_spawn 211 = .ok (.iadd, 1) := by decide +kernel
theorem dX4_spawn_212 : decode cX4_spawn 212 = .ok (.putfield 84, 3) := by decide +kernel
theorem dX4_spawn_215 : decode cX4_spawn 215 = .ok (.iload 6, 2) := by decide +kernel
theorem dX4_spawn_217 : decode cX4_spawn 217 = .ok (.ireturn, 1) := by decide +kernel
theorem dX4_exit_0 : decode cX4_exit 0 = .ok (.aload_n 0, 1) := by decide +kernel
theorem dX4_exit_1 : decode cX4_exit 1 = .ok (.iload_n 1, 1) := by decide +kernel
theorem dX4_exit_2 : decode cX4_exit 2 = .ok (.invokevirtual 103, 3) := by decide +kernel
theorem dX4_exit_5 : decode cX4_exit 5 = .ok (.ifCond .ne 6, 3) := by decide +kernel
theorem dX4_exit_8 : decode cX4_exit 8 = .ok (.ldc 107, 2) := by decide +kernel
theorem dX4_exit_10 : decode cX4_exit 10 = .ok (.ireturn, 1) := by decide +kernel
theorem dX4_exit_11 : decode cX4_exit 11 = .ok (.iload_n 1, 1) := by decide +kernel
theorem dX4_exit_12 : decode cX4_exit 12 = .ok (.ifCond .ne 6, 3) := by decide +kernel
theorem dX4_exit_15 : decode cX4_exit 15 = .ok (.ldc 135, 2) := by decide +kernel
theorem dX4_exit_17 : decode cX4_exit 17 = .ok (.ireturn, 1) := by decide +kernel
theorem dX4_exit_18 : decode cX4_exit 18 = .ok (.aload_n 0, 1) := by decide +kernel
theorem dX4_exit_19 : decode cX4_exit 19 = .ok (.iload_n 1, 1) := by decide +kernel
theorem dX4_exit_20 : decode cX4_exit 20 = .ok (.invokevirtual 118, 3) := by decide +kernel
theorem dX4_exit_23 : decode cX4_exit 23 = .ok (.istore_n 2, 1) := by decide +kernel
theorem dX4_exit_24 : decode cX4_exit 24 = .ok (.aload_n 0, 1) := by decide +kernel
theorem dX4_exit_25 : decode cX4_exit 25 = .ok (.getfield 7, 3) := by decide +kernel
theorem dX4_exit_28 : decode cX4_exit 28 = .ok (.iload_n 1, 1) := by decide +kernel
theorem dX4_exit_29 : decode cX4_exit 29 = .ok (.iconst 0, 1) := by decide +kernel
theorem dX4_exit_30 : decode cX4_exit 30 = .ok (.bastore, 1) := by decide +kernel
theorem dX4_exit_31 : decode cX4_exit 31 = .ok (.iconst 0, 1) := by decide +kernel
theorem dX4_exit_32 : decode cX4_exit 32 = .ok (.istore_n 3, 1) := by decide +kernel
theorem dX4_exit_33 : decode cX4_exit 33 = .ok (.iload_n 3, 1) := by decide +kernel
theorem dX4_exit_34 : decode cX4_exit 34 = .ok (.aload_n 0, 1) := by decide +kernel
theorem dX4_exit_35 : decode cX4_exit 35 = .ok (.getfield 100, 3) := by decide +kernel
theorem dX4_exit_38 : decode cX4_exit 38 = .ok (.if_icmp .ge 39, 3) := by decide +kernel
theorem dX4_exit_41 : decode cX4_exit 41 = .ok (.aload_n 0, 1) := by decide +kernel
theorem dX4_exit_42 : decode cX4_exit 42 = .ok (.getfield 32, 3) := by decide +kernel
theorem dX4_exit_45 : decode cX4_exit 45 = .ok (.iload_n 3, 1) := by decide +kernel
theorem dX4_exit_46 : decode cX4_exit 46 = .ok (.aload_n 0, 1) := by decide +kernel
theorem dX4_exit_47 : decode cX4_exit 47 = .ok (.getfield 32, 3) := by decide +kernel
theorem dX4_exit_50 : decode cX4_exit 50 = .ok (.iload_n 3, 1) := by decide +kernel
theorem dX4_exit_51 : decode cX4_exit 51 = .ok (.baload, 1) := by decide +kernel
theorem dX4_exit_52 : decode cX4_exit 52 = .ok (.ifCond .eq 17, 3) := by decide +kernel
theorem dX4_exit_55 : decode cX4_exit 55 = .ok (.aload_n 0, 1) := by decide +kernel
theorem dX4_exit_56 : decode cX4_exit 56 = .ok (.getfield 35, 3) := by decide +kernel
theorem dX4_exit_59 : decode cX4_exit 59 = .ok (.iload_n 3, 1) := by decide +kernel
theorem dX4_exit_60 : decode cX4_exit 60 = .ok (.iaload, 1) := by decide +kernel
theorem dX4_exit_61 : decode cX4_exit 61 = .ok (.iload_n 1, 1) := by decide +kernel
theorem dX4_exit_62 : decode cX4_exit 62 = .ok (.if_icmp .eq 7, 3) := by decide +kernel
theorem dX4_exit_65 : decode cX4_exit 65 = .ok (.iconst 1, 1) := by decide +kernel
theorem dX4_exit_66 : decode cX4_exit 66 = .ok (.goto 4, 3) := by decide +kernel
theorem dX4_exit_69 : decode cX4_exit 69 = .ok (.iconst 0, 1) := by decide +kernel
theorem dX4_exit_70 : decode cX4_exit 70 = .ok (.bastore, 1) := by decide +kernel
theorem dX4_exit_71 : decode cX4_exit 71 = .ok (.iinc 3 1, 3) := by decide +kernel
theorem dX4_exit_74 : decode cX4_exit 74 = .ok (.goto (-41), 3) := by decide +kernel
theorem dX4_exit_77 : decode cX4_exit 77 = .ok (.iload_n 2, 1) := by decide +kernel
theorem dX4_exit_78 : decode cX4_exit 78 = .ok (.ireturn, 1) := by decide +kernel
theorem dX4_endpoint_0 : decode cX4_endpoint 0 = .ok (.aload_n 0, 1) := by decide +kernel
theorem dX4_endpoint_1 : decode cX4_endpoint 1 = .ok (.iload_n 1, 1) := by decide +kernel
theorem dX4_endpoint_2 : decode cX4_endpoint 2 = .ok (.invokevirtual 103, 3) := by decide +kernel
theorem dX4_endpoint_5 : decode cX4_endpoint 5 = .ok (.ifCond .ne 6, 3) := by decide +kernel
theorem dX4_endpoint_8 : decode cX4_endpoint 8 = .ok (.ldc 107, 2) := by decide +kernel
theorem dX4_endpoint_10 : decode cX4_endpoint 10 = .ok (.ireturn, 1) := by decide +kernel
theorem dX4_endpoint_11 : decode cX4_endpoint 11 = .ok (.aload_n 0, 1) := by decide +kernel
theorem dX4_endpoint_12 : decode cX4_endpoint 12 = .ok (.iload_n 2, 1) := by decide +kernel
theorem dX4_endpoint_13 : decode cX4_endpoint 13 = .ok (.invokevirtual 129, 3) := by decide +kernel
theorem dX4_endpoint_16 : decode cX4_endpoint 16 = .ok (.ifCond .eq 11, 3) := by decide +kernel
theorem dX4_endpoint_19 : decode cX4_endpoint 19 = .ok (.aload_n 0, 1) := by decide +kernel
theorem dX4_endpoint_20 : decode cX4_endpoint 20 = .ok (.iload_n 3, 1) := by decide +kernel
theorem dX4_endpoint_21 : decode cX4_endpoint 21 = .ok (.invokevirtual 129, 3) := by decide +kernel
theorem dX4_endpoint_24 : decode cX4_endpoint 24 = .ok (.ifCond .ne 6, 3) := by decide +kernel
theorem dX4_endpoint_27 : decode cX4_endpoint 27 = .ok (.ldc 110, 2) := by decide +kernel
theorem dX4_endpoint_29 : decode cX4_endpoint 29 = .ok (.ireturn, 1) := by decide +kernel
theorem dX4_endpoint_30 : decode cX4_endpoint 30 = .ok (.aload_n 0, 1) := by decide +kernel
theorem dX4_endpoint_31 : decode cX4_endpoint 31 = .ok (.iload_n 1, 1) := by decide +kernel
theorem dX4_endpoint_32 : decode cX4_endpoint 32 = .ok (.iload_n 2, 1) := by decide +kernel
theorem dX4_endpoint_33 : decode cX4_endpoint 33 = .ok (.iload_n 3, 1) := by decide +kernel
theorem dX4_endpoint_34 : decode cX4_endpoint 34 = .ok (.invokevirtual 125, 3) := by decide +kernel
theorem dX4_endpoint_37 : decode cX4_endpoint 37 = .ok (.ifCond .ne 6, 3) := by decide +kernel
theorem dX4_endpoint_40 : decode cX4_endpoint 40 = .ok (.ldc 135, 2) := by decide +kernel
theorem dX4_endpoint_42 : decode cX4_endpoint 42 = .ok (.ireturn, 1) := by decide +kernel
theorem dX4_endpoint_43 : decode cX4_endpoint 43 = .ok (.aload_n 0, 1) := by decide +kernel
theorem dX4_endpoint_44 : decode cX4_endpoint 44 = .ok (.getfield 100, 3) := by decide +kernel
theorem dX4_endpoint_47 : decode cX4_endpoint 47 = .ok (.bipush 40, 2) := by decide +kernel
theorem dX4_endpoint_49 : decode cX4_endpoint 49 = .ok (.if_icmp .ne 6, 3) := by decide +kernel
theorem dX4_endpoint_52 : decode cX4_endpoint 52 = .ok (.ldc 111, 2) := by decide +kernel
theorem dX4_endpoint_54 : decode cX4_endpoint 54 = .ok (.ireturn, 1) := by decide +kernel
theorem dX4_endpoint_55 : decode cX4_endpoint 55 = .ok (.aload_n 0, 1) := by decide +kernel
theorem dX4_endpoint_56 : decode cX4_endpoint 56 = .ok (.getfield 100, 3) := by decide +kernel
theorem dX4_endpoint_59 : decode cX4_endpoint 59 = .ok (.istore 4, 2) := by decide +kernel
theorem dX4_endpoint_61 : decode cX4_endpoint 61 = .ok (.aload_n 0, 1) := by decide +kernel
theorem dX4_endpoint_62 : decode cX4_endpoint 62 = .ok (.getfield 32, 3) := by decide +kernel
theorem dX4_endpoint_65 : decode cX4_endpoint 65 = .ok (.iload 4, 2) := by decide +kernel
theorem dX4_endpoint_67 : decode cX4_endpoint 67 = .ok (.iconst 1, 1) := by decide +kernel
theorem dX4_endpoint_68 : decode cX4_endpoint 68 = .ok (.bastore, 1) := by decide +kernel
theorem dX4_endpoint_69 : decode cX4_endpoint 69 = .ok (.aload_n 0, 1) := by decide +kernel
theorem dX4_endpoint_70 : decode cX4_endpoint 70 = .ok (.getfield 35, 3) := by decide +kernel
theorem dX4_endpoint_73 : decode cX4_endpoint 73 = .ok (.iload 4, 2) := by decide +kernel
theorem dX4_endpoint_75 : decode cX4_endpoint 75 = .ok (.iload_n 1, 1) := by decide +kernel
theorem dX4_endpoint_76 : decode cX4_endpoint 76 = .ok (.iastore, 1) := by decide +kernel
theorem dX4_endpoint_77 : decode cX4_endpoint 77 = .ok (.aload_n 0, 1) := by decide +kernel
theorem dX4_endpoint_78 : decode cX4_endpoint 78 = .ok (.getfield 38, 3) := by decide +kernel
theorem dX4_endpoint_81 : decode cX4_endpoint 81 = .ok (.iload 4, 2) := by decide +kernel
theorem dX4_endpoint_83 : decode cX4_endpoint 83 = .ok (.iload_n 2, 1) := by decide +kernel
theorem dX4_endpoint_84 : decode cX4_endpoint 84 = .ok (.iastore, 1) := by decide +kernel
theorem dX4_endpoint_85 : decode cX4_endpoint 85 = .ok (.aload_n 0, 1) := by decide +kernel
theorem dX4_endpoint_86 : decode cX4_endpoint 86 = .ok (.getfield 41, 3) := by decide +kernel
theorem dX4_endpoint_89 : decode cX4_endpoint 89 = .ok (.iload 4, 2) := by decide +kernel
theorem dX4_endpoint_91 : decode cX4_endpoint 91 = .ok (.iload_n 3, 1) := by decide +kernel
theorem dX4_endpoint_92 : decode cX4_endpoint 92 = .ok (.iastore, 1) := by decide +kernel
theorem dX4_endpoint_93 : decode cX4_endpoint 93 = .ok (.aload_n 0, 1) := by decide +kernel
theorem dX4_endpoint_94 : decode cX4_endpoint 94 = .ok (.getfield 44, 3) := by decide +kernel
theorem dX4_endpoint_97 : decode cX4_endpoint 97 = .ok (.iload 4, 2) := by decide +kernel
theorem dX4_endpoint_99 : decode cX4_endpoint 99 = .ok (.iconst 0, 1) := by decide +kernel
theorem dX4_endpoint_100 : decode cX4_endpoint 100 = .ok (.iastore, 1) := by decide +kernel
theorem dX4_endpoint_101 : decode cX4_endpoint 101 = .ok (.aload_n 0, 1) := by decide +kernel
theorem dX4_endpoint_102 : decode cX4_endpoint 102 = .ok (.dup, 1) := by decide +kernel
theorem dX4_endpoint_103 : decode cX4_endpoint 103 = .ok (.getfield 100, 3) := by decide +kernel
theorem dX4_endpoint_106 : decode cX4_endpoint 106 = .ok (.iconst 1, 1) := by decide +kernel
theorem dX4_endpoint_107 : decode cX4_endpoint 107 = .ok (.iadd, 1) := by decide +kernel
theorem dX4_endpoint_108 : decode cX4_endpoint 108 = .ok (.putfield 100, 3) := by decide +kernel
theorem dX4_endpoint_111 : decode cX4_endpoint 111 = .ok (.iload 4, 2) := by decide +kernel
theorem dX4_endpoint_113 : decode cX4_endpoint 113 = .ok (.ireturn, 1) := by decide +kernel
theorem dX4_close_0 : decode cX4_close 0 = .ok (.aload_n 0, 1) := by decide +kernel
theorem dX4_close_1 : decode cX4_close 1 = .ok (.iload_n 1, 1) := by decide +kernel
theorem dX4_close_2 : decode cX4_close 2 = .ok (.invokevirtual 103, 3) := by decide +kernel
theorem dX4_close_5 : decode cX4_close 5 = .ok (.ifCond .eq 11, 3) := by decide +kernel
theorem dX4_close_8 : decode cX4_close 8 = .ok (.aload_n 0, 1) := by decide +kernel
theorem dX4_close_9 : decode cX4_close 9 = .ok (.iload_n 2, 1) := by decide +kernel
theorem dX4_close_10 : decode cX4_close 10 = .ok (.invokevirtual 143, 3) := by decide +kernel
theorem dX4_close_13 : decode cX4_close 13 = .ok (.ifCond .ne 6, 3) := by decide +kernel
theorem dX4_close_16 : decode cX4_close 16 = .ok (.ldc 107, 2) := by decide +kernel
theorem dX4_close_18 : decode cX4_close 18 = .ok (.ireturn, 1) := by decide +kernel
theorem dX4_close_19 : decode cX4_close 19 = .ok (.aload_n 0, 1) := by decide +kernel
theorem dX4_close_20 : decode cX4_close 20 = .ok (.getfield 35, 3) := by decide +kernel
theorem dX4_close_23 : decode cX4_close 23 = .ok (.iload_n 2, 1) := by decide +kernel
theorem dX4_close_24 : decode cX4_close 24 = .ok (.iaload, 1) := by decide +kernel
theorem dX4_close_25 : decode cX4_close 25 = .ok (.iload_n 1, 1) := by decide +kernel
theorem dX4_close_26 : decode cX4_close 26 = .ok (.if_icmp .eq 6, 3) := by decide +kernel
theorem dX4_close_29 : decode cX4_close 29 = .ok (.ldc 135, 2) := by decide +kernel
theorem dX4_close_31 : decode cX4_close 31 = .ok (.ireturn, 1) := by decide +kernel
theorem dX4_close_32 : decode cX4_close 32 = .ok (.aload_n 0, 1) := by decide +kernel
theorem dX4_close_33 : decode cX4_close 33 = .ok (.getfield 32, 3) := by decide +kernel
theorem dX4_close_36 : decode cX4_close 36 = .ok (.iload_n 2, 1) := by decide +kernel
theorem dX4_close_37 : decode cX4_close 37 = .ok (.iconst 0, 1) := by decide +kernel
theorem dX4_close_38 : decode cX4_close 38 = .ok (.bastore, 1) := by decide +kernel
theorem dX4_close_39 : decode cX4_close 39 = .ok (.aload_n 0, 1) := by decide +kernel
theorem dX4_close_40 : decode cX4_close 40 = .ok (.getfield 44, 3) := by decide +kernel
theorem dX4_close_43 : decode cX4_close 43 = .ok (.iload_n 2, 1) := by decide +kernel
theorem dX4_close_44 : decode cX4_close 44 = .ok (.iaload, 1) := by decide +kernel
theorem dX4_close_45 : decode cX4_close 45 = .ok (.ireturn, 1) := by decide +kernel
theorem dX4_port_0 : decode cX4_port 0 = .ok (.aload_n 0, 1) := by decide +kernel
theorem dX4_port_1 : decode cX4_port 1 = .ok (.iload_n 1, 1) := by decide +kernel
theorem dX4_port_2 : decode cX4_port 2 = .ok (.invokevirtual 143, 3) := by decide +kernel
theorem dX4_port_5 : decode cX4_port 5 = .ok (.ifCond .ne 6, 3) := by decide +kernel
theorem dX4_port_8 : decode cX4_port 8 = .ok (.ldc 107, 2) := by decide +kernel
theorem dX4_port_10 : decode cX4_port 10 = .ok (.ireturn, 1) := by decide +kernel
theorem dX4_port_11 : decode cX4_port 11 = .ok (.iload_n 2, 1) := by decide +kernel
theorem dX4_port_12 : decode cX4_port 12 = .ok (.ifCond .ne 12, 3) := by decide +kernel
theorem dX4_port_15 : decode cX4_port 15 = .ok (.aload_n 0, 1) := by decide +kernel
theorem dX4_port_16 : decode cX4_port 16 = .ok (.getfield 35, 3) := by decide +kernel
theorem dX4_port_19 : decode cX4_port 19 = .ok (.iload_n 1, 1) := by decide +kernel
theorem dX4_port_20 : decode cX4_port 20 = .ok (.iaload, 1) := by decide +kernel
theorem dX4_port_21 : decode cX4_port 21 = .ok (.goto 47, 3) := by decide +kernel
theorem dX4_port_24 : decode cX4_port 24 = .ok (.iload_n 2, 1) := by decide +kernel
theorem dX4_port_25 : decode cX4_port 25 = .ok (.iconst 1, 1) := by decide +kernel
theorem dX4_port_26 : decode cX4_port 26 = .ok (.if_icmp .ne 12, 3) := by decide +kernel
theorem dX4_port_29 : decode cX4_port 29 = .ok (.aload_n 0, 1) := by decide +kernel
theorem dX4_port_30 : decode cX4_port 30 = .ok (.getfield 38, 3) := by decide +kernel
theorem dX4_port_33 : decode cX4_port 33 = .ok (.iload_n 1, 1) := by decide +kernel
theorem dX4_port_34 : decode cX4_port 34 = .ok (.iaload, 1) := by decide +kernel
theorem dX4_port_35 : decode cX4_port 35 = .ok (.goto 33, 3) := by decide +kernel
theorem dX4_port_38 : decode cX4_port 38 = .ok (.iload_n 2, 1) := by decide +kernel
theorem dX4_port_39 : decode cX4_port 39 = .ok (.iconst 2, 1) := by decide +kernel
theorem dX4_port_40 : decode cX4_port 40 = .ok (.if_icmp .ne 12, 3) := by decide +kernel
theorem dX4_port_43 : decode cX4_port 43 = .ok (.aload_n 0, 1) := by decide +kernel
theorem dX4_port_44 : decode cX4_port 44 = .ok (.getfield 41, 3) := by decide +kernel
theorem dX4_port_47 : decode cX4_port 47 = .ok (.iload_n 1, 1) := by decide +kernel
theorem dX4_port_48 : decode cX4_port 48 = .ok (.iaload, 1) := by decide +kernel
theorem dX4_port_49 : decode cX4_port 49 = .ok (.goto 19, 3) := by decide +kernel
theorem dX4_port_52 : decode cX4_port 52 = .ok (.iload_n 2, 1) := by decide +kernel
theorem dX4_port_53 : decode cX4_port 53 = .ok (.iconst 3, 1) := by decide +kernel
theorem dX4_port_54 : decode cX4_port 54 = .ok (.if_icmp .ne 12, 3) := by decide +kernel
theorem dX4_port_57 : decode cX4_port 57 = .ok (.aload_n 0, 1) := by decide +kernel
theorem dX4_port_58 : decode cX4_port 58 = .ok (.getfield 44, 3) := by decide +kernel
theorem dX4_port_61 : decode cX4_port 61 = .ok (.iload_n 1, 1) := by decide +kernel
theorem dX4_port_62 : decode cX4_port 62 = .ok (.iaload, 1) := by decide +kernel
theorem dX4_port_63 : decode cX4_port 63 = .ok (.goto 5, 3) := by decide +kernel
theorem dX4_port_66 : decode cX4_port 66 = .ok (.ldc 110, 2) := by decide +kernel
theorem dX4_port_68 : decode cX4_port 68 = .ok (.ireturn, 1) := by decide +kernel
theorem dX4_send_0 : decode cX4_send 0 = .ok (.aload_n 0, 1) := by decide +kernel
theorem dX4_send_1 : decode cX4_send 1 = .ok (.iload_n 1, 1) := by decide +kernel
theorem dX4_send_2 : decode cX4_send 2 = .ok (.invokevirtual 103, 3) := by decide +kernel
theorem dX4_send_5 : decode cX4_send 5 = .ok (.ifCond .eq 11, 3) := by decide +kernel
theorem dX4_send_8 : decode cX4_send 8 = .ok (.aload_n 0, 1) := by decide +kernel
theorem dX4_send_9 : decode cX4_send 9 = .ok (.iload_n 2, 1) := by decide +kernel
theorem dX4_send_10 : decode cX4_send 10 = .ok (.invokevirtual 143, 3) := by decide +kernel
theorem dX4_send_13 : decode cX4_send 13 = .ok (.ifCond .ne 6, 3) := by decide +kernel
theorem dX4_send_16 : decode cX4_send 16 = .ok (.ldc 107, 2) := by decide +kernel
theorem dX4_send_18 : decode cX4_send 18 = .ok (.ireturn, 1) := by decide +kernel
theorem dX4_send_19 : decode cX4_send 19 = .ok (.iload_n 3, 1) := by decide +kernel
theorem dX4_send_20 : decode cX4_send 20 = .ok (.i2l, 1) := by decide +kernel
theorem dX4_send_21 : decode cX4_send 21 = .ok (.lconst 0, 1) := by decide +kernel
theorem dX4_send_22 : decode cX4_send 22 = .ok (.ldc2_w 146, 3) := by decide +kernel
theorem dX4_send_25 : decode cX4_send 25 = .ok (.invokestatic 93, 3) := by decide +kernel
theorem dX4_send_28 : decode cX4_send 28 = .ok (.ifCond .eq 21, 3) := by decide +kernel
theorem dX4_send_31 : decode cX4_send 31 = .ok (.aload_n 0, 1) := by decide +kernel
theorem dX4_send_32 : decode cX4_send 32 = .ok (.iload 5, 2) := by decide +kernel
theorem dX4_send_34 : decode cX4_send 34 = .ok (.invokevirtual 129, 3) := by decide +kernel
theorem dX4_send_37 : decode cX4_send 37 = .ok (.ifCond .eq 12, 3) := by decide +kernel
theorem dX4_send_40 : decode cX4_send 40 = .ok (.aload_n 0, 1) := by decide +kernel
