theorem dX7_init_0 : decode cX7_init 0 = .ok (.aload_n 0, 1) := by decide +kernel
theorem dX7_init_1 : decode cX7_init 1 = .ok (.invokespecial 1, 3) := by decide +kernel
theorem dX7_init_4 : decode cX7_init 4 = .ok (.aload_n 0, 1) := by decide +kernel
theorem dX7_init_5 : decode cX7_init 5 = .ok (.bipush 40, 2) := by decide +kernel
theorem dX7_init_7 : decode cX7_init 7 = .ok (.newarray .int, 2) := by decide +kernel
theorem dX7_init_9 : decode cX7_init 9 = .ok (.putfield 9, 3) := by decide +kernel
theorem dX7_init_12 : decode cX7_init 12 = .ok (.aload_n 0, 1) := by decide +kernel
theorem dX7_init_13 : decode cX7_init 13 = .ok (.bipush 40, 2) := by decide +kernel
theorem dX7_init_15 : decode cX7_init 15 = .ok (.newarray .int, 2) := by decide +kernel
theorem dX7_init_17 : decode cX7_init 17 = .ok (.putfield 13, 3) := by decide +kernel
theorem dX7_init_20 : decode cX7_init 20 = .ok (.aload_n 0, 1) := by decide +kernel
theorem dX7_init_21 : decode cX7_init 21 = .ok (.bipush 40, 2) := by decide +kernel
theorem dX7_init_23 : decode cX7_init 23 = .ok (.newarray .int, 2) := by decide +kernel
theorem dX7_init_25 : decode cX7_init 25 = .ok (.putfield 16, 3) := by decide +kernel
theorem dX7_init_28 : decode cX7_init 28 = .ok (.aload_n 0, 1) := by decide +kernel
theorem dX7_init_29 : decode cX7_init 29 = .ok (.sipush 12040, 3) := by decide +kernel
theorem dX7_init_32 : decode cX7_init 32 = .ok (.newarray .int, 2) := by decide +kernel
theorem dX7_init_34 : decode cX7_init 34 = .ok (.putfield 19, 3) := by decide +kernel
theorem dX7_init_37 : decode cX7_init 37 = .ok (.aload_n 0, 1) := by decide +kernel
theorem dX7_init_38 : decode cX7_init 38 = .ok (.sipush 201, 3) := by decide +kernel
theorem dX7_init_41 : decode cX7_init 41 = .ok (.newarray .int, 2) := by decide +kernel
theorem dX7_init_43 : decode cX7_init 43 = .ok (.putfield 22, 3) := by decide +kernel
theorem dX7_init_46 : decode cX7_init 46 = .ok (.aload_n 0, 1) := by decide +kernel
theorem dX7_init_47 : decode cX7_init 47 = .ok (.sipush 201, 3) := by decide +kernel
theorem dX7_init_50 : decode cX7_init 50 = .ok (.newarray .int, 2) := by decide +kernel
theorem dX7_init_52 : decode cX7_init 52 = .ok (.putfield 25, 3) := by decide +kernel
theorem dX7_init_55 : decode cX7_init 55 = .ok (.aload_n 0, 1) := by decide +kernel
theorem dX7_init_56 : decode cX7_init 56 = .ok (.sipush 201, 3) := by decide +kernel
theorem dX7_init_59 : decode cX7_init 59 = .ok (.newarray .int, 2) := by decide +kernel
theorem dX7_init_61 : decode cX7_init 61 = .ok (.putfield 28, 3) := by decide +kernel
theorem dX7_init_64 : decode cX7_init 64 = .ok (.aload_n 0, 1) := by decide +kernel
theorem dX7_init_65 : decode cX7_init 65 = .ok (.sipush 201, 3) := by decide +kernel
theorem dX7_init_68 : decode cX7_init 68 = .ok (.newarray .int, 2) := by decide +kernel
theorem dX7_init_70 : decode cX7_init 70 = .ok (.putfield 31, 3) := by decide +kernel
theorem dX7_init_73 : decode cX7_init 73 = .ok (.aload_n 0, 1) := by decide +kernel
theorem dX7_init_74 : decode cX7_init 74 = .ok (.sipush 200, 3) := by decide +kernel
theorem dX7_init_77 : decode cX7_init 77 = .ok (.newarray .int, 2) := by decide +kernel
theorem dX7_init_79 : decode cX7_init 79 = .ok (.putfield 34, 3) := by decide +kernel
theorem dX7_init_82 : decode cX7_init 82 = .ok (.aload_n 0, 1) := by decide +kernel
theorem dX7_init_83 : decode cX7_init 83 = .ok (.sipush 200, 3) := by decide +kernel
theorem dX7_init_86 : decode cX7_init 86 = .ok (.newarray .int, 2) := by decide +kernel
theorem dX7_init_88 : decode cX7_init 88 = .ok (.putfield 37, 3) := by decide +kernel
theorem dX7_init_91 : decode cX7_init 91 = .ok (.aload_n 0, 1) := by decide +kernel
theorem dX7_init_92 : decode cX7_init 92 = .ok (.sipush 200, 3) := by decide +kernel
theorem dX7_init_95 : decode cX7_init 95 = .ok (.newarray .int, 2) := by decide +kernel
theorem dX7_init_97 : decode cX7_init 97 = .ok (.putfield 40, 3) := by decide +kernel
theorem dX7_init_100 : decode cX7_init 100 = .ok (.aload_n 0, 1) := by decide +kernel
theorem dX7_init_101 : decode cX7_init 101 = .ok (.sipush 200, 3) := by decide +kernel
theorem dX7_init_104 : decode cX7_init 104 = .ok (.newarray .int, 2) := by decide +kernel
theorem dX7_init_106 : decode cX7_init 106 = .ok (.putfield 43, 3) := by decide +kernel
theorem dX7_init_109 : decode cX7_init 109 = .ok (.aload_n 0, 1) := by decide +kernel
theorem dX7_init_110 : decode cX7_init 110 = .ok (.sipush 200, 3) := by decide +kernel
theorem dX7_init_113 : decode cX7_init 113 = .ok (.newarray .int, 2) := by decide +kernel
theorem dX7_init_115 : decode cX7_init 115 = .ok (.putfield 46, 3) := by decide +kernel
theorem dX7_init_118 : decode cX7_init 118 = .ok (.aload_n 0, 1) := by decide +kernel
theorem dX7_init_119 : decode cX7_init 119 = .ok (.sipush 12040, 3) := by decide +kernel
theorem dX7_init_122 : decode cX7_init 122 = .ok (.newarray .int, 2) := by decide +kernel
theorem dX7_init_124 : decode cX7_init 124 = .ok (.putfield 49, 3) := by decide +kernel
theorem dX7_init_127 : decode cX7_init 127 = .ok (.aload_n 0, 1) := by decide +kernel
theorem dX7_init_128 : decode cX7_init 128 = .ok (.sipush 20000, 3) := by decide +kernel
theorem dX7_init_131 : decode cX7_init 131 = .ok (.newarray .int, 2) := by decide +kernel
theorem dX7_init_133 : decode cX7_init 133 = .ok (.putfield 52, 3) := by decide +kernel
theorem dX7_init_136 : decode cX7_init 136 = .ok (.aload_n 0, 1) := by decide +kernel
theorem dX7_init_137 : decode cX7_init 137 = .ok (.sipush 20000, 3) := by decide +kernel
theorem dX7_init_140 : decode cX7_init 140 = .ok (.newarray .int, 2) := by decide +kernel
theorem dX7_init_142 : decode cX7_init 142 = .ok (.putfield 55, 3) := by decide +kernel
theorem dX7_init_145 : decode cX7_init 145 = .ok (.aload_n 0, 1) := by decide +kernel
theorem dX7_init_146 : decode cX7_init 146 = .ok (.sipush 20000, 3) := by decide +kernel
theorem dX7_init_149 : decode cX7_init 149 = .ok (.newarray .int, 2) := by decide +kernel
theorem dX7_init_151 : decode cX7_init 151 = .ok (.putfield 58, 3) := by decide +kernel
theorem dX7_init_154 : decode cX7_init 154 = .ok (.aload_n 0, 1) := by decide +kernel
theorem dX7_init_155 : decode cX7_init 155 = .ok (.sipush 20000, 3) := by decide +kernel
theorem dX7_init_158 : decode cX7_init 158 = .ok (.newarray .int, 2) := by decide +kernel
theorem dX7_init_160 : decode cX7_init 160 = .ok (.putfield 61, 3) := by decide +kernel
theorem dX7_init_163 : decode cX7_init 163 = .ok (.aload_n 0, 1) := by decide +kernel
theorem dX7_init_164 : decode cX7_init 164 = .ok (.bipush 100, 2) := by decide +kernel
theorem dX7_init_166 : decode cX7_init 166 = .ok (.newarray .int, 2) := by decide +kernel
theorem dX7_init_168 : decode cX7_init 168 = .ok (.putfield 64, 3) := by decide +kernel
theorem dX7_init_171 : decode cX7_init 171 = .ok (.aload_n 0, 1) := by decide +kernel
theorem dX7_init_172 : decode cX7_init 172 = .ok (.bipush 100, 2) := by decide +kernel
theorem dX7_init_174 : decode cX7_init 174 = .ok (.newarray .int, 2) := by decide +kernel
theorem dX7_init_176 : decode cX7_init 176 = .ok (.putfield 67, 3) := by decide +kernel
theorem dX7_init_179 : decode cX7_init 179 = .ok (.aload_n 0, 1) := by decide +kernel
theorem dX7_init_180 : decode cX7_init 180 = .ok (.sipush 2107, 3) := by decide +kernel
theorem dX7_init_183 : decode cX7_init 183 = .ok (.newarray .int, 2) := by decide +kernel
theorem dX7_init_185 : decode cX7_init 185 = .ok (.putfield 70, 3) := by decide +kernel
theorem dX7_init_188 : decode cX7_init 188 = .ok (.aload_n 0, 1) := by decide +kernel
theorem dX7_init_189 : decode cX7_init 189 = .ok (.sipush 2107, 3) := by decide +kernel
theorem dX7_init_192 : decode cX7_init 192 = .ok (.newarray .int, 2) := by decide +kernel
theorem dX7_init_194 : decode cX7_init 194 = .ok (.putfield 73, 3) := by decide +kernel
theorem dX7_init_197 : decode cX7_init 197 = .ok (.aload_n 0, 1) := by decide +kernel
theorem dX7_init_198 : decode cX7_init 198 = .ok (.sipush 2107, 3) := by decide +kernel
theorem dX7_init_201 : decode cX7_init 201 = .ok (.newarray .int, 2) := by decide +kernel
theorem dX7_init_203 : decode cX7_init 203 = .ok (.putfield 76, 3) := by decide +kernel
theorem dX7_init_206 : decode cX7_init 206 = .ok (.aload_n 0, 1) := by decide +kernel
theorem dX7_init_207 : decode cX7_init 207 = .ok (.sipush 2107, 3) := by decide +kernel
theorem dX7_init_210 : decode cX7_init 210 = .ok (.newarray .boolean, 2) := by decide +kernel
theorem dX7_init_212 : decode cX7_init 212 = .ok (.putfield 79, 3) := by decide +kernel
theorem dX7_init_215 : decode cX7_init 215 = .ok (.aload_n 0, 1) := by decide +kernel
theorem dX7_init_216 : decode cX7_init 216 = .ok (.sipush 301, 3) := by decide +kernel
theorem dX7_init_219 : decode cX7_init 219 = .ok (.newarray .boolean, 2) := by decide +kernel
theorem dX7_init_221 : decode cX7_init 221 = .ok (.putfield 83, 3) := by decide +kernel
theorem dX7_init_224 : decode cX7_init 224 = .ok (.aload_n 0, 1) := by decide +kernel
theorem dX7_init_225 : decode cX7_init 225 = .ok (.sipush 301, 3) := by decide +kernel
theorem dX7_init_228 : decode cX7_init 228 = .ok (.newarray .int, 2) := by decide +kernel
theorem dX7_init_230 : decode cX7_init 230 = .ok (.putfield 86, 3) := by decide +kernel
theorem dX7_init_233 : decode cX7_init 233 = .ok (.aload_n 0, 1) := by decide +kernel
theorem dX7_init_234 : decode cX7_init 234 = .ok (.sipush 12040, 3) := by decide +kernel
theorem dX7_init_237 : decode cX7_init 237 = .ok (.newarray .int, 2) := by decide +kernel
theorem dX7_init_239 : decode cX7_init 239 = .ok (.putfield 89, 3) := by decide +kernel
theorem dX7_init_242 : decode cX7_init 242 = .ok (.iconst 0, 1) := by decide +kernel
theorem dX7_init_243 : decode cX7_init 243 = .ok (.istore_n 1, 1) := by decide +kernel
theorem dX7_init_244 : decode cX7_init 244 = .ok (.iload_n 1, 1) := by decide +kernel
theorem dX7_init_245 : decode cX7_init 245 = .ok (.bipush 100, 2) := by decide +kernel
theorem dX7_init_247 : decode cX7_init 247 = .ok (.if_icmp .ge 32, 3) := by decide +kernel
theorem dX7_init_250 : decode cX7_init 250 = .ok (.aload_n 0, 1) := by decide +kernel
theorem dX7_init_251 : decode cX7_init 251 = .ok (.getfield 64, 3) := by decide +kernel
theorem dX7_init_254 : decode cX7_init 254 = .ok (.iload_n 1, 1) := by decide +kernel
theorem dX7_init_255 : decode cX7_init 255 = .ok (.sipush 1000, 3) := by decide +kernel
theorem dX7_init_258 : decode cX7_init 258 = .ok (.bipush 10, 2) := by decide +kernel
theorem dX7_init_260 : decode cX7_init 260 = .ok (.iload_n 1, 1) := by decide +kernel
theorem dX7_init_261 : decode cX7_init 261 = .ok (.imul, 1) := by decide +kernel
theorem dX7_init_262 : decode cX7_init 262 = .ok (.isub, 1) := by decide +kernel
theorem dX7_init_263 : decode cX7_init 263 = .ok (.iastore, 1) := by decide +kernel
theorem dX7_init_264 : decode cX7_init 264 = .ok (.aload_n 0, 1) := by decide +kernel
theorem dX7_init_265 : decode cX7_init 265 = .ok (.getfield 67, 3) := by decide +kernel
theorem dX7_init_268 : decode cX7_init 268 = .ok (.iload_n 1, 1) := by decide +kernel
theorem dX7_init_269 : decode cX7_init 269 = .ok (.iload_n 1, 1) := by decide +kernel
theorem dX7_init_270 : decode cX7_init 270 = .ok (.iconst 4, 1) := by decide +kernel
theorem dX7_init_271 : decode cX7_init 271 = .ok (.idiv, 1) := by decide +kernel
theorem dX7_init_272 : decode cX7_init 272 = .ok (.iastore, 1) := by decide +kernel
theorem dX7_init_273 : decode cX7_init 273 = .ok (.iinc 1 1, 3) := by decide +kernel
theorem dX7_init_276 : decode cX7_init 276 = .ok (.goto (-32), 3) := by decide +kernel
theorem dX7_init_279 : decode cX7_init 279 = .ok (.return_, 1) := by decide +kernel
theorem dX7_in_0 : decode cX7_in 0 = .ok (.iload_n 0, 1) := by decide +kernel
theorem dX7_in_1 : decode cX7_in 1 = .ok (.iload_n 1, 1) := by decide +kernel
theorem dX7_in_2 : decode cX7_in 2 = .ok (.if_icmp .lt 12, 3) := by decide +kernel
theorem dX7_in_5 : decode cX7_in 5 = .ok (.iload_n 0, 1) := by decide +kernel
theorem dX7_in_6 : decode cX7_in 6 = .ok (.iload_n 2, 1) := by decide +kernel
theorem dX7_in_7 : decode cX7_in 7 = .ok (.if_icmp .gt 7, 3) := by decide +kernel
theorem dX7_in_10 : decode cX7_in 10 = .ok (.iconst 1, 1) := by decide +kernel
theorem dX7_in_11 : decode cX7_in 11 = .ok (.goto 4, 3) := by decide +kernel
theorem dX7_in_14 : decode cX7_in 14 = .ok (.iconst 0, 1) := by decide +kernel
theorem dX7_in_15 : decode cX7_in 15 = .ok (.ireturn, 1) := by decide +kernel
theorem dX7_isMember_0 : decode cX7_isMember 0 = .ok (.iload_n 1, 1) := by decide +kernel
theorem dX7_isMember_1 : decode cX7_isMember 1 = .ok (.iconst 0, 1) := by decide +kernel
theorem dX7_isMember_2 : decode cX7_isMember 2 = .ok (.aload_n 0, 1) := by decide +kernel
theorem dX7_isMember_3 : decode cX7_isMember 3 = .ok (.getfield 92, 3) := by decide +kernel
theorem dX7_isMember_6 : decode cX7_isMember 6 = .ok (.iconst 1, 1) := by decide +kernel
theorem dX7_isMember_7 : decode cX7_isMember 7 = .ok (.isub, 1) := by decide +kernel
theorem dX7_isMember_8 : decode cX7_isMember 8 = .ok (.invokestatic 96, 3) := by decide +kernel
theorem dX7_isMember_11 : decode cX7_isMember 11 = .ok (.ireturn, 1) := by decide +kernel
theorem dX7_isWeek_0 : decode cX7_isWeek 0 = .ok (.iload_n 1, 1) := by decide +kernel
theorem dX7_isWeek_1 : decode cX7_isWeek 1 = .ok (.iconst 0, 1) := by decide +kernel
theorem dX7_isWeek_2 : decode cX7_isWeek 2 = .ok (.aload_n 0, 1) := by decide +kernel
theorem dX7_isWeek_3 : decode cX7_isWeek 3 = .ok (.getfield 100, 3) := by decide +kernel
theorem dX7_isWeek_6 : decode cX7_isWeek 6 = .ok (.invokestatic 96, 3) := by decide +kernel
theorem dX7_isWeek_9 : decode cX7_isWeek 9 = .ok (.ireturn, 1) := by decide +kernel
theorem dX7_atFirst_0 : decode cX7_atFirst 0 = .ok (.iload_n 0, 1) := by decide +kernel
theorem dX7_atFirst_1 : decode cX7_atFirst 1 = .ok (.tableswitch 55 0 5 #[39, 41, 43, 46, 49, 52], 39) := by decide +kernel
theorem dX7_atFirst_40 : decode cX7_atFirst 40 = .ok (.iconst 4, 1) := by decide +kernel
theorem dX7_atFirst_41 : decode cX7_atFirst 41 = .ok (.ireturn, 1) := by decide +kernel
theorem dX7_atFirst_42 : decode cX7_atFirst 42 = .ok (.iconst 3, 1) := by decide +kernel
theorem dX7_atFirst_43 : decode cX7_atFirst 43 = .ok (.ireturn, 1) := by decide +kernel
theorem dX7_atFirst_44 : decode cX7_atFirst 44 = .ok (.bipush 12, 2) := by decide +kernel
theorem dX7_atFirst_46 : decode cX7_atFirst 46 = .ok (.ireturn, 1) := by decide +kernel
theorem dX7_atFirst_47 : decode cX7_atFirst 47 = .ok (.bipush 30, 2) := by decide +kernel
theorem dX7_atFirst_49 : decode cX7_atFirst 49 = .ok (.ireturn, 1) := by decide +kernel
theorem dX7_atFirst_50 : decode cX7_atFirst 50 = .ok (.bipush 60, 2) := by decide +kernel
theorem dX7_atFirst_52 : decode cX7_atFirst 52 = .ok (.ireturn, 1) := by decide +kernel
theorem dX7_atFirst_53 : decode cX7_atFirst 53 = .ok (.bipush 28, 2) := by decide +kernel
theorem dX7_atFirst_55 : decode cX7_atFirst 55 = .ok (.ireturn, 1) := by decide +kernel
theorem dX7_atFirst_56 : decode cX7_atFirst 56 = .ok (.bipush 8, 2) := by decide +kernel
theorem dX7_atFirst_58 : decode cX7_atFirst 58 = .ok (.ireturn, 1) := by decide +kernel
theorem dX7_isValue_0 : decode cX7_isValue 0 = .ok (.iload_n 0, 1) := by decide +kernel
theorem dX7_isValue_1 : decode cX7_isValue 1 = .ok (.tableswitch 90 0 5 #[39, 47, 55, 63, 72, 81], 39) := by decide +kernel
theorem dX7_isValue_40 : decode cX7_isValue 40 = .ok (.iload_n 1, 1) := by decide +kernel
theorem dX7_isValue_41 : decode cX7_isValue 41 = .ok (.iconst 0, 1) := by decide +kernel
theorem dX7_isValue_42 : decode cX7_isValue 42 = .ok (.bipush 100, 2) := by decide +kernel
theorem dX7_isValue_44 : decode cX7_isValue 44 = .ok (.invokestatic 96, 3) := by decide +kernel
theorem dX7_isValue_47 : decode cX7_isValue 47 = .ok (.ireturn, 1) := by decide +kernel
theorem dX7_isValue_48 : decode cX7_isValue 48 = .ok (.iload_n 1, 1) := by decide +kernel
theorem dX7_isValue_49 : decode cX7_isValue 49 = .ok (.iconst 0, 1) := by decide +kernel
theorem dX7_isValue_50 : decode cX7_isValue 50 = .ok (.bipush 14, 2) := by decide +kernel
theorem dX7_isValue_52 : decode cX7_isValue 52 = .ok (.invokestatic 96, 3) := by decide +kernel
theorem dX7_isValue_55 : decode cX7_isValue 55 = .ok (.ireturn, 1) := by decide +kernel
theorem dX7_isValue_56 : decode cX7_isValue 56 = .ok (.iload_n 1, 1) := by decide +kernel
theorem dX7_isValue_57 : decode cX7_isValue 57 = .ok (.iconst 0, 1) := by decide +kernel
theorem dX7_isValue_58 : decode cX7_isValue 58 = .ok (.bipush 100, 2) := by decide +kernel
theorem dX7_isValue_60 : decode cX7_isValue 60 = .ok (.invokestatic 96, 3) := by decide +kernel
theorem dX7_isValue_63 : decode cX7_isValue 63 = .ok (.ireturn, 1) := by decide +kernel
theorem dX7_isValue_64 : decode cX7_isValue 64 = .ok (.iload_n 1, 1) := by decide +kernel
theorem dX7_isValue_65 : decode cX7_isValue 65 = .ok (.iconst 1, 1) := by decide +kernel
theorem dX7_isValue_66 : decode cX7_isValue 66 = .ok (.sipush 400, 3) := by decide +kernel
theorem dX7_isValue_69 : decode cX7_isValue 69 = .ok (.invokestatic 96, 3) := by decide +kernel
theorem dX7_isValue_72 : decode cX7_isValue 72 = .ok (.ireturn, 1) := by decide +kernel
theorem dX7_isValue_73 : decode cX7_isValue 73 = .ok (.iload_n 1, 1) := by decide +kernel
theorem dX7_isValue_74 : decode cX7_isValue 74 = .ok (.iconst 0, 1) := by decide +kernel
theorem dX7_isValue_75 : decode cX7_isValue 75 = .ok (.sipush 400, 3) := by decide +kernel
theorem dX7_isValue_78 : decode cX7_isValue 78 = .ok (.invokestatic 96, 3) := by decide +kernel
theorem dX7_isValue_81 : decode cX7_isValue 81 = .ok (.ireturn, 1) := by decide +kernel
theorem dX7_isValue_82 : decode cX7_isValue 82 = .ok (.iload_n 1, 1) := by decide +kernel
theorem dX7_isValue_83 : decode cX7_isValue 83 = .ok (.iconst 0, 1) := by decide +kernel
theorem dX7_isValue_84 : decode cX7_isValue 84 = .ok (.sipush 400, 3) := by decide +kernel
theorem dX7_isValue_87 : decode cX7_isValue 87 = .ok (.invokestatic 96, 3) := by decide +kernel
theorem dX7_isValue_90 : decode cX7_isValue 90 = .ok (.ireturn, 1) := by decide +kernel
theorem dX7_isValue_91 : decode cX7_isValue 91 = .ok (.iload_n 1, 1) := by decide +kernel
theorem dX7_isValue_92 : decode cX7_isValue 92 = .ok (.iconst 0, 1) := by decide +kernel
theorem dX7_isValue_93 : decode cX7_isValue 93 = .ok (.bipush 50, 2) := by decide +kernel
theorem dX7_isValue_95 : decode cX7_isValue 95 = .ok (.invokestatic 96, 3) := by decide +kernel
theorem dX7_isValue_98 : decode cX7_isValue 98 = .ok (.ireturn, 1) := by decide +kernel
theorem dX7_inForce_0 : decode cX7_inForce 0 = .ok (.iload_n 1, 1) := by decide +kernel
theorem dX7_inForce_1 : decode cX7_inForce 1 = .ok (.invokestatic 103, 3) := by decide +kernel
theorem dX7_inForce_4 : decode cX7_inForce 4 = .ok (.istore 5, 2) := by decide +kernel
theorem dX7_inForce_6 : decode cX7_inForce 6 = .ok (.iconst (-1), 1) := by decide +kernel
theorem dX7_inForce_7 : decode cX7_inForce 7 = .ok (.istore 6, 2) := by decide +kernel
theorem dX7_inForce_9 : decode cX7_inForce 9 = .ok (.iconst 0, 1) := by decide +kernel
theorem dX7_inForce_10 : decode cX7_inForce 10 = .ok (.istore 7, 2) := by decide +kernel
theorem dX7_inForce_12 : decode cX7_inForce 12 = .ok (.iload 7, 2) := by decide +kernel
theorem dX7_inForce_14 : decode cX7_inForce 14 = .ok (.iload 4, 2) := by decide +kernel
theorem dX7_inForce_16 : decode cX7_inForce 16 = .ok (.if_icmp .ge 72, 3) := by decide +kernel
theorem dX7_inForce_19 : decode cX7_inForce 19 = .ok (.aload_n 0, 1) := by decide +kernel
theorem dX7_inForce_20 : decode cX7_inForce 20 = .ok (.getfield 22, 3) := by decide +kernel
theorem dX7_inForce_23 : decode cX7_inForce 23 = .ok (.iload 7, 2) := by decide +kernel
theorem dX7_inForce_25 : decode cX7_inForce 25 = .ok (.iaload, 1) := by decide +kernel
theorem dX7_inForce_26 : decode cX7_inForce 26 = .ok (.iload_n 1, 1) := by decide +kernel
theorem dX7_inForce_27 : decode cX7_inForce 27 = .ok (.if_icmp .ne 55, 3) := by decide +kernel
theorem dX7_inForce_30 : decode cX7_inForce 30 = .ok (.aload_n 0, 1) := by decide +kernel
theorem dX7_inForce_31 : decode cX7_inForce 31 = .ok (.getfield 31, 3) := by decide +kernel
theorem dX7_inForce_34 : decode cX7_inForce 34 = .ok (.iload 7, 2) := by decide +kernel
theorem dX7_inForce_36 : decode cX7_inForce 36 = .ok (.iaload, 1) := by decide +kernel
theorem dX7_inForce_37 : decode cX7_inForce 37 = .ok (.iload_n 3, 1) := by decide +kernel
theorem dX7_inForce_38 : decode cX7_inForce 38 = .ok (.if_icmp .gt 44, 3) := by decide +kernel
theorem dX7_inForce_41 : decode cX7_inForce 41 = .ok (.aload_n 0, 1) := by decide +kernel
theorem dX7_inForce_42 : decode cX7_inForce 42 = .ok (.getfield 25, 3) := by decide +kernel
theorem dX7_inForce_45 : decode cX7_inForce 45 = .ok (.iload 7, 2) := by decide +kernel
theorem dX7_inForce_47 : decode cX7_inForce 47 = .ok (.iaload, 1) := by decide +kernel
theorem dX7_inForce_48 : decode cX7_inForce 48 = .ok (.iload_n 2, 1) := by decide +kernel
theorem dX7_inForce_49 : decode cX7_inForce 49 = .ok (.if_icmp .gt 33, 3) := by decide +kernel
theorem dX7_inForce_52 : decode cX7_inForce 52 = .ok (.aload_n 0, 1) := by decide +kernel
theorem dX7_inForce_53 : decode cX7_inForce 53 = .ok (.getfield 25, 3) := by decide +kernel
theorem dX7_inForce_56 : decode cX7_inForce 56 = .ok (.iload 7, 2) := by decide +kernel
theorem dX7_inForce_58 : decode cX7_inForce 58 = .ok (.iaload, 1) := by decide +kernel
theorem dX7_inForce_59 : decode cX7_inForce 59 = .ok (.iload 6, 2) := by decide +kernel
theorem dX7_inForce_61 : decode cX7_inForce 61 = .ok (.if_icmp .lt 21, 3) := by decide +kernel
theorem dX7_inForce_64 : decode cX7_inForce 64 = .ok (.aload_n 0, 1) := by decide +kernel
theorem dX7_inForce_65 : decode cX7_inForce 65 = .ok (.getfield 25, 3) := by decide +kernel
theorem dX7_inForce_68 : decode cX7_inForce 68 = .ok (.iload 7, 2) := by decide +kernel
theorem dX7_inForce_70 : decode cX7_inForce 70 = .ok (.iaload, 1) := by decide +kernel
theorem dX7_inForce_71 : decode cX7_inForce 71 = .ok (.istore 6, 2) := by decide +kernel
theorem dX7_inForce_73 : decode cX7_inForce 73 = .ok (.aload_n 0, 1) := by decide +kernel
theorem dX7_inForce_74 : decode cX7_inForce 74 = .ok (.getfield 28, 3) := by decide +kernel
theorem dX7_inForce_77 : decode cX7_inForce 77 = .ok (.iload 7, 2) := by decide +kernel
theorem dX7_inForce_79 : decode cX7_inForce 79 = .ok (.iaload, 1) := by decide +kernel
theorem dX7_inForce_80 : decode cX7_inForce 80 = .ok (.istore 5, 2) := by decide +kernel
theorem dX7_inForce_82 : decode cX7_inForce 82 = .ok (.iinc 7 1, 3) := by decide +kernel
theorem dX7_inForce_85 : decode cX7_inForce 85 = .ok (.goto (-73), 3) := by decide +kernel
theorem dX7_inForce_88 : decode cX7_inForce 88 = .ok (.iload 5, 2) := by decide +kernel
theorem dX7_inForce_90 : decode cX7_inForce 90 = .ok (.ireturn, 1) := by decide +kernel
theorem dX7_know_0 : decode cX7_know 0 = .ok (.aload_n 0, 1) := by decide +kernel
theorem dX7_know_1 : decode cX7_know 1 = .ok (.iload_n 1, 1) := by decide +kernel
theorem dX7_know_2 : decode cX7_know 2 = .ok (.putfield 107, 3) := by decide +kernel
theorem dX7_know_5 : decode cX7_know 5 = .ok (.iconst 0, 1) := by decide +kernel
theorem dX7_know_6 : decode cX7_know 6 = .ok (.istore_n 3, 1) := by decide +kernel
theorem dX7_know_7 : decode cX7_know 7 = .ok (.iload_n 3, 1) := by decide +kernel
theorem dX7_know_8 : decode cX7_know 8 = .ok (.bipush 7, 2) := by decide +kernel
theorem dX7_know_10 : decode cX7_know 10 = .ok (.if_icmp .ge 49, 3) := by decide +kernel
theorem dX7_know_13 : decode cX7_know 13 = .ok (.iconst 0, 1) := by decide +kernel
theorem dX7_know_14 : decode cX7_know 14 = .ok (.istore 4, 2) := by decide +kernel
theorem dX7_know_16 : decode cX7_know 16 = .ok (.iload 4, 2) := by decide +kernel
theorem dX7_know_18 : decode cX7_know 18 = .ok (.aload_n 0, 1) := by decide +kernel
theorem dX7_know_19 : decode cX7_know 19 = .ok (.getfield 100, 3) := by decide +kernel
theorem dX7_know_22 : decode cX7_know 22 = .ok (.if_icmp .gt 31, 3) := by decide +kernel
theorem dX7_know_25 : decode cX7_know 25 = .ok (.aload_n 0, 1) := by decide +kernel
theorem dX7_know_26 : decode cX7_know 26 = .ok (.getfield 70, 3) := by decide +kernel
theorem dX7_know_29 : decode cX7_know 29 = .ok (.sipush 301, 3) := by decide +kernel
theorem dX7_know_32 : decode cX7_know 32 = .ok (.iload_n 3, 1) := by decide +kernel
theorem dX7_know_33 : decode cX7_know 33 = .ok (.imul, 1) := by decide +kernel
theorem dX7_know_34 : decode cX7_know 34 = .ok (.iload 4, 2) := by decide +kernel
theorem dX7_know_36 : decode cX7_know 36 = .ok (.iadd, 1) := by decide +kernel
theorem dX7_know_37 : decode cX7_know 37 = .ok (.aload_n 0, 1) := by decide +kernel
theorem dX7_know_38 : decode cX7_know 38 = .ok (.iload_n 3, 1) := by decide +kernel
theorem dX7_know_39 : decode cX7_know 39 = .ok (.iload 4, 2) := by decide +kernel
theorem dX7_know_41 : decode cX7_know 41 = .ok (.iload_n 1, 1) := by decide +kernel
theorem dX7_know_42 : decode cX7_know 42 = .ok (.iload_n 2, 1) := by decide +kernel
theorem dX7_know_43 : decode cX7_know 43 = .ok (.invokevirtual 110, 3) := by decide +kernel
theorem dX7_know_46 : decode cX7_know 46 = .ok (.iastore, 1) := by decide +kernel
theorem dX7_know_47 : decode cX7_know 47 = .ok (.iinc 4 1, 3) := by decide +kernel
theorem dX7_know_50 : decode cX7_know 50 = .ok (.goto (-34), 3) := by decide +kernel
theorem dX7_know_53 : decode cX7_know 53 = .ok (.iinc 3 1, 3) := by decide +kernel
theorem dX7_know_56 : decode cX7_know 56 = .ok (.goto (-49), 3) := by decide +kernel
theorem dX7_know_59 : decode cX7_know 59 = .ok (.return_, 1) := by decide +kernel
theorem dX7_value_0 : decode cX7_value 0 = .ok (.aload_n 0, 1) := by decide +kernel
theorem dX7_value_1 : decode cX7_value 1 = .ok (.getfield 70, 3) := by decide +kernel
theorem dX7_value_4 : decode cX7_value 4 = .ok (.sipush 301, 3) := by decide +kernel
theorem dX7_value_7 : decode cX7_value 7 = .ok (.iload_n 1, 1) := by decide +kernel
theorem dX7_value_8 : decode cX7_value 8 = .ok (.imul, 1) := by decide +kernel
theorem dX7_value_9 : decode cX7_value 9 = .ok (.iload_n 2, 1) := by decide +kernel
theorem dX7_value_10 : decode cX7_value 10 = .ok (.iadd, 1) := by decide +kernel
theorem dX7_value_11 : decode cX7_value 11 = .ok (.iaload, 1) := by decide +kernel
theorem dX7_value_12 : decode cX7_value 12 = .ok (.ireturn, 1) := by decide +kernel
theorem dX7_owes_0 : decode cX7_owes 0 = .ok (.iconst 0, 1) := by decide +kernel
theorem dX7_owes_1 : decode cX7_owes 1 = .ok (.istore_n 3, 1) := by decide +kernel
theorem dX7_owes_2 : decode cX7_owes 2 = .ok (.aload_n 0, 1) := by decide +kernel
theorem dX7_owes_3 : decode cX7_owes 3 = .ok (.getfield 16, 3) := by decide +kernel
theorem dX7_owes_6 : decode cX7_owes 6 = .ok (.iload_n 1, 1) := by decide +kernel
theorem dX7_owes_7 : decode cX7_owes 7 = .ok (.iaload, 1) := by decide +kernel
theorem dX7_owes_8 : decode cX7_owes 8 = .ok (.istore 4, 2) := by decide +kernel
theorem dX7_owes_10 : decode cX7_owes 10 = .ok (.iload 4, 2) := by decide +kernel
theorem dX7_owes_12 : decode cX7_owes 12 = .ok (.iload_n 2, 1) := by decide +kernel
theorem dX7_owes_13 : decode cX7_owes 13 = .ok (.if_icmp .ge 19, 3) := by decide +kernel
theorem dX7_owes_16 : decode cX7_owes 16 = .ok (.iload_n 3, 1) := by decide +kernel
theorem dX7_owes_17 : decode cX7_owes 17 = .ok (.aload_n 0, 1) := by decide +kernel
theorem dX7_owes_18 : decode cX7_owes 18 = .ok (.iconst 0, 1) := by decide +kernel
theorem dX7_owes_19 : decode cX7_owes 19 = .ok (.iload 4, 2) := by decide +kernel
theorem dX7_owes_21 : decode cX7_owes 21 = .ok (.invokevirtual 114, 3) := by decide +kernel
theorem dX7_owes_24 : decode cX7_owes 24 = .ok (.iadd, 1) := by decide +kernel
theorem dX7_owes_25 : decode cX7_owes 25 = .ok (.istore_n 3, 1) := by decide +kernel
theorem dX7_owes_26 : decode cX7_owes 26 = .ok (.iinc 4 1, 3) := by decide +kernel
theorem dX7_owes_29 : decode cX7_owes 29 = .ok (.goto (-19), 3) := by decide +kernel
theorem dX7_owes_32 : decode cX7_owes 32 = .ok (.iconst 0, 1) := by decide +kernel
theorem dX7_owes_33 : decode cX7_owes 33 = .ok (.istore 4, 2) := by decide +kernel
theorem dX7_owes_35 : decode cX7_owes 35 = .ok (.iload 4, 2) := by decide +kernel
theorem dX7_owes_37 : decode cX7_owes 37 = .ok (.iload_n 2, 1) := by decide +kernel
theorem dX7_owes_38 : decode cX7_owes 38 = .ok (.if_icmp .gt 34, 3) := by decide +kernel
theorem dX7_owes_41 : decode cX7_owes 41 = .ok (.iload 4, 2) := by decide +kernel
theorem dX7_owes_43 : decode cX7_owes 43 = .ok (.aload_n 0, 1) := by decide +kernel
theorem dX7_owes_44 : decode cX7_owes 44 = .ok (.getfield 107, 3) := by decide +kernel
theorem dX7_owes_47 : decode cX7_owes 47 = .ok (.if_icmp .gt 25, 3) := by decide +kernel
theorem dX7_owes_50 : decode cX7_owes 50 = .ok (.iload_n 3, 1) := by decide +kernel
theorem dX7_owes_51 : decode cX7_owes 51 = .ok (.aload_n 0, 1) := by decide +kernel
theorem dX7_owes_52 : decode cX7_owes 52 = .ok (.getfield 19, 3) := by decide +kernel
theorem dX7_owes_55 : decode cX7_owes 55 = .ok (.sipush 301, 3) := by decide +kernel
theorem dX7_owes_58 : decode cX7_owes 58 = .ok (.iload_n 1, 1) := by decide +kernel
theorem dX7_owes_59 : decode cX7_owes 59 = .ok (.imul, 1) := by decide +kernel
theorem dX7_owes_60 : decode cX7_owes 60 = .ok (.iload 4, 2) := by decide +kernel
theorem dX7_owes_62 : decode cX7_owes 62 = .ok (.iadd, 1) := by decide +kernel
theorem dX7_owes_63 : decode cX7_owes 63 = .ok (.iaload, 1) := by decide +kernel
theorem dX7_owes_64 : decode cX7_owes 64 = .ok (.isub, 1) := by decide +kernel
theorem dX7_owes_65 : decode cX7_owes 65 = .ok (.istore_n 3, 1) := by decide +kernel
theorem dX7_owes_66 : decode cX7_owes 66 = .ok (.iinc 4 1, 3) := by decide +kernel
theorem dX7_owes_69 : decode cX7_owes 69 = .ok (.goto (-34), 3) := by decide +kernel
theorem dX7_owes_72 : decode cX7_owes 72 = .ok (.iload_n 3, 1) := by decide +kernel
theorem dX7_owes_73 : decode cX7_owes 73 = .ok (.ireturn, 1) := by decide +kernel
theorem dX7_isOut_0 : decode cX7_isOut 0 = .ok (.aload_n 0, 1) := by decide +kernel
theorem dX7_isOut_1 : decode cX7_isOut 1 = .ok (.iload_n 1, 1) := by decide +kernel
theorem dX7_isOut_2 : decode cX7_isOut 2 = .ok (.iload_n 2, 1) := by decide +kernel
theorem dX7_isOut_3 : decode cX7_isOut 3 = .ok (.invokevirtual 118, 3) := by decide +kernel
theorem dX7_isOut_6 : decode cX7_isOut 6 = .ok (.aload_n 0, 1) := by decide +kernel
theorem dX7_isOut_7 : decode cX7_isOut 7 = .ok (.bipush 6, 2) := by decide +kernel
theorem dX7_isOut_9 : decode cX7_isOut 9 = .ok (.iload_n 2, 1) := by decide +kernel
theorem dX7_isOut_10 : decode cX7_isOut 10 = .ok (.invokevirtual 114, 3) := by decide +kernel
theorem dX7_isOut_13 : decode cX7_isOut 13 = .ok (.aload_n 0, 1) := by decide +kernel
theorem dX7_isOut_14 : decode cX7_isOut 14 = .ok (.iconst 0, 1) := by decide +kernel
theorem dX7_isOut_15 : decode cX7_isOut 15 = .ok (.iload_n 2, 1) := by decide +kernel
theorem dX7_isOut_16 : decode cX7_isOut 16 = .ok (.invokevirtual 114, 3) := by decide +kernel
theorem dX7_isOut_19 : decode cX7_isOut 19 = .ok (.imul, 1) := by decide +kernel
theorem dX7_isOut_20 : decode cX7_isOut 20 = .ok (.if_icmp .le 7, 3) := by decide +kernel
theorem dX7_isOut_23 : decode cX7_isOut 23 = .ok (.iconst 1, 1) := by decide +kernel
theorem dX7_isOut_24 : decode cX7_isOut 24 = .ok (.goto 4, 3) := by decide +kernel
theorem dX7_isOut_27 : decode cX7_isOut 27 = .ok (.iconst 0, 1) := by decide +kernel
theorem dX7_isOut_28 : decode cX7_isOut 28 = .ok (.ireturn, 1) := by decide +kernel
theorem dX7_go_0 : decode cX7_go 0 = .ok (.bipush 7, 2) := by decide +kernel
theorem dX7_go_2 : decode cX7_go 2 = .ok (.aload_n 0, 1) := by decide +kernel
theorem dX7_go_3 : decode cX7_go 3 = .ok (.getfield 100, 3) := by decide +kernel
theorem dX7_go_6 : decode cX7_go 6 = .ok (.imul, 1) := by decide +kernel
theorem dX7_go_7 : decode cX7_go 7 = .ok (.bipush 7, 2) := by decide +kernel
theorem dX7_go_9 : decode cX7_go 9 = .ok (.iadd, 1) := by decide +kernel
theorem dX7_go_10 : decode cX7_go 10 = .ok (.istore_n 2, 1) := by decide +kernel
theorem dX7_go_11 : decode cX7_go 11 = .ok (.iconst 0, 1) := by decide +kernel
theorem dX7_go_12 : decode cX7_go 12 = .ok (.istore_n 3, 1) := by decide +kernel
theorem dX7_go_13 : decode cX7_go 13 = .ok (.iload_n 3, 1) := by decide +kernel
theorem dX7_go_14 : decode cX7_go 14 = .ok (.iload_n 2, 1) := by decide +kernel
theorem dX7_go_15 : decode cX7_go 15 = .ok (.if_icmp .ge 30, 3) := by decide +kernel
theorem dX7_go_18 : decode cX7_go 18 = .ok (.aload_n 0, 1) := by decide +kernel
theorem dX7_go_19 : decode cX7_go 19 = .ok (.getfield 79, 3) := by decide +kernel
theorem dX7_go_22 : decode cX7_go 22 = .ok (.iload_n 3, 1) := by decide +kernel
theorem dX7_go_23 : decode cX7_go 23 = .ok (.iconst 0, 1) := by decide +kernel
theorem dX7_go_24 : decode cX7_go 24 = .ok (.bastore, 1) := by decide +kernel
theorem dX7_go_25 : decode cX7_go 25 = .ok (.aload_n 0, 1) := by decide +kernel
theorem dX7_go_26 : decode cX7_go 26 = .ok (.getfield 73, 3) := by decide +kernel
theorem dX7_go_29 : decode cX7_go 29 = .ok (.iload_n 3, 1) := by decide +kernel
theorem dX7_go_30 : decode cX7_go 30 = .ok (.iconst 0, 1) := by decide +kernel
theorem dX7_go_31 : decode cX7_go 31 = .ok (.iastore, 1) := by decide +kernel
theorem dX7_go_32 : decode cX7_go 32 = .ok (.aload_n 0, 1) := by decide +kernel
theorem dX7_go_33 : decode cX7_go 33 = .ok (.getfield 76, 3) := by decide +kernel
theorem dX7_go_36 : decode cX7_go 36 = .ok (.iload_n 3, 1) := by decide +kernel
theorem dX7_go_37 : decode cX7_go 37 = .ok (.iconst 0, 1) := by decide +kernel
theorem dX7_go_38 : decode cX7_go 38 = .ok (.iastore, 1) := by decide +kernel
theorem dX7_go_39 : decode cX7_go 39 = .ok (.iinc 3 1, 3) := by decide +kernel
theorem dX7_go_42 : decode cX7_go 42 = .ok (.goto (-29), 3) := by decide +kernel
theorem dX7_go_45 : decode cX7_go 45 = .ok (.iconst 0, 1) := by decide +kernel
theorem dX7_go_46 : decode cX7_go 46 = .ok (.istore_n 3, 1) := by decide +kernel
theorem dX7_go_47 : decode cX7_go 47 = .ok (.iconst 0, 1) := by decide +kernel
theorem dX7_go_48 : decode cX7_go 48 = .ok (.istore 4, 2) := by decide +kernel
theorem dX7_go_50 : decode cX7_go 50 = .ok (.iload 4, 2) := by decide +kernel
theorem dX7_go_52 : decode cX7_go 52 = .ok (.aload_n 0, 1) := by decide +kernel
theorem dX7_go_53 : decode cX7_go 53 = .ok (.getfield 121, 3) := by decide +kernel
theorem dX7_go_56 : decode cX7_go 56 = .ok (.if_icmp .ge 108, 3) := by decide +kernel
theorem dX7_go_59 : decode cX7_go 59 = .ok (.aload_n 0, 1) := by decide +kernel
theorem dX7_go_60 : decode cX7_go 60 = .ok (.getfield 43, 3) := by decide +kernel
theorem dX7_go_63 : decode cX7_go 63 = .ok (.iload 4, 2) := by decide +kernel
theorem dX7_go_65 : decode cX7_go 65 = .ok (.iaload, 1) := by decide +kernel
theorem dX7_go_66 : decode cX7_go 66 = .ok (.aload_n 0, 1) := by decide +kernel
theorem dX7_go_67 : decode cX7_go 67 = .ok (.getfield 107, 3) := by decide +kernel
theorem dX7_go_70 : decode cX7_go 70 = .ok (.if_icmp .gt 32, 3) := by decide +kernel
theorem dX7_go_73 : decode cX7_go 73 = .ok (.aload_n 0, 1) := by decide +kernel
theorem dX7_go_74 : decode cX7_go 74 = .ok (.getfield 46, 3) := by decide +kernel
theorem dX7_go_77 : decode cX7_go 77 = .ok (.iload 4, 2) := by decide +kernel
theorem dX7_go_79 : decode cX7_go 79 = .ok (.iaload, 1) := by decide +kernel
theorem dX7_go_80 : decode cX7_go 80 = .ok (.iconst (-1), 1) := by decide +kernel
theorem dX7_go_81 : decode cX7_go 81 = .ok (.if_icmp .eq 17, 3) := by decide +kernel
theorem dX7_go_84 : decode cX7_go 84 = .ok (.aload_n 0, 1) := by decide +kernel
theorem dX7_go_85 : decode cX7_go 85 = .ok (.getfield 46, 3) := by decide +kernel
theorem dX7_go_88 : decode cX7_go 88 = .ok (.iload 4, 2) := by decide +kernel
theorem dX7_go_90 : decode cX7_go 90 = .ok (.iaload, 1) := by decide +kernel
theorem dX7_go_91 : decode cX7_go 91 = .ok (.aload_n 0, 1) := by decide +kernel
theorem dX7_go_92 : decode cX7_go 92 = .ok (.getfield 107, 3) := by decide +kernel
theorem dX7_go_95 : decode cX7_go 95 = .ok (.if_icmp .le 7, 3) := by decide +kernel
theorem dX7_go_98 : decode cX7_go 98 = .ok (.iconst 1, 1) := by decide +kernel
theorem dX7_go_99 : decode cX7_go 99 = .ok (.goto 4, 3) := by decide +kernel
theorem dX7_go_102 : decode cX7_go 102 = .ok (.iconst 0, 1) := by decide +kernel
theorem dX7_go_103 : decode cX7_go 103 = .ok (.istore 5, 2) := by decide +kernel
theorem dX7_go_105 : decode cX7_go 105 = .ok (.aload_n 0, 1) := by decide +kernel
theorem dX7_go_106 : decode cX7_go 106 = .ok (.getfield 37, 3) := by decide +kernel
theorem dX7_go_109 : decode cX7_go 109 = .ok (.iload 4, 2) := by decide +kernel
theorem dX7_go_111 : decode cX7_go 111 = .ok (.iaload, 1) := by decide +kernel
theorem dX7_go_112 : decode cX7_go 112 = .ok (.istore 6, 2) := by decide +kernel
theorem dX7_go_114 : decode cX7_go 114 = .ok (.aload_n 0, 1) := by decide +kernel
theorem dX7_go_115 : decode cX7_go 115 = .ok (.getfield 34, 3) := by decide +kernel
theorem dX7_go_118 : decode cX7_go 118 = .ok (.iload 4, 2) := by decide +kernel
theorem dX7_go_120 : decode cX7_go 120 = .ok (.iaload, 1) := by decide +kernel
theorem dX7_go_121 : decode cX7_go 121 = .ok (.iload_n 1, 1) := by decide +kernel
theorem dX7_go_122 : decode cX7_go 122 = .ok (.if_icmp .ne 36, 3) := by decide +kernel
theorem dX7_go_125 : decode cX7_go 125 = .ok (.iload 5, 2) := by decide +kernel
theorem dX7_go_127 : decode cX7_go 127 = .ok (.ifCond .eq 31, 3) := by decide +kernel
theorem dX7_go_130 : decode cX7_go 130 = .ok (.iload 6, 2) := by decide +kernel
theorem dX7_go_132 : decode cX7_go 132 = .ok (.aload_n 0, 1) := by decide +kernel
theorem dX7_go_133 : decode cX7_go 133 = .ok (.getfield 40, 3) := by decide +kernel
theorem dX7_go_136 : decode cX7_go 136 = .ok (.iload 4, 2) := by decide +kernel
theorem dX7_go_138 : decode cX7_go 138 = .ok (.iaload, 1) := by decide +kernel
theorem dX7_go_139 : decode cX7_go 139 = .ok (.if_icmp .gt 19, 3) := by decide +kernel
theorem dX7_go_142 : decode cX7_go 142 = .ok (.aload_n 0, 1) := by decide +kernel
theorem dX7_go_143 : decode cX7_go 143 = .ok (.getfield 79, 3) := by decide +kernel
theorem dX7_go_146 : decode cX7_go 146 = .ok (.iload 6, 2) := by decide +kernel
theorem dX7_go_148 : decode cX7_go 148 = .ok (.iconst 1, 1) := by decide +kernel
theorem dX7_go_149 : decode cX7_go 149 = .ok (.bastore, 1) := by decide +kernel
theorem dX7_go_150 : decode cX7_go 150 = .ok (.iconst 1, 1) := by decide +kernel
theorem dX7_go_151 : decode cX7_go 151 = .ok (.istore_n 3, 1) := by decide +kernel
theorem dX7_go_152 : decode cX7_go 152 = .ok (.iinc 6 1, 3) := by decide +kernel
theorem dX7_go_155 : decode cX7_go 155 = .ok (.goto (-41), 3) := by decide +kernel
theorem dX7_go_158 : decode cX7_go 158 = .ok (.iinc 4 1, 3) := by decide +kernel
theorem dX7_go_161 : decode cX7_go 161 = .ok (.goto (-111), 3) := by decide +kernel
theorem dX7_go_164 : decode cX7_go 164 = .ok (.iconst 0, 1) := by decide +kernel
theorem dX7_go_165 : decode cX7_go 165 = .ok (.istore 4, 2) := by decide +kernel
theorem dX7_go_167 : decode cX7_go 167 = .ok (.iload 4, 2) := by decide +kernel
theorem dX7_go_169 : decode cX7_go 169 = .ok (.aload_n 0, 1) := by decide +kernel
theorem dX7_go_170 : decode cX7_go 170 = .ok (.getfield 100, 3) := by decide +kernel
theorem dX7_go_173 : decode cX7_go 173 = .ok (.if_icmp .gt 43, 3) := by decide +kernel
theorem dX7_go_176 : decode cX7_go 176 = .ok (.aload_n 0, 1) := by decide +kernel
theorem dX7_go_177 : decode cX7_go 177 = .ok (.getfield 86, 3) := by decide +kernel
theorem dX7_go_180 : decode cX7_go 180 = .ok (.iload 4, 2) := by decide +kernel
theorem dX7_go_182 : decode cX7_go 182 = .ok (.iconst 0, 1) := by decide +kernel
theorem dX7_go_183 : decode cX7_go 183 = .ok (.iastore, 1) := by decide +kernel
theorem dX7_go_184 : decode cX7_go 184 = .ok (.aload_n 0, 1) := by decide +kernel
theorem dX7_go_185 : decode cX7_go 185 = .ok (.getfield 83, 3) := by decide +kernel
theorem dX7_go_188 : decode cX7_go 188 = .ok (.iload 4, 2) := by decide +kernel
theorem dX7_go_190 : decode cX7_go 190 = .ok (.iload_n 3, 1) := by decide +kernel
theorem dX7_go_191 : decode cX7_go 191 = .ok (.ifCond .eq 17, 3) := by decide +kernel
theorem dX7_go_194 : decode cX7_go 194 = .ok (.aload_n 0, 1) := by decide +kernel
theorem dX7_go_195 : decode cX7_go 195 = .ok (.iload_n 1, 1) := by decide +kernel
theorem dX7_go_196 : decode cX7_go 196 = .ok (.iload 4, 2) := by decide +kernel
theorem dX7_go_198 : decode cX7_go 198 = .ok (.invokevirtual 124, 3) := by decide +kernel
theorem dX7_go_201 : decode cX7_go 201 = .ok (.ifCond .eq 7, 3) := by decide +kernel
theorem dX7_go_204 : decode cX7_go 204 = .ok (.iconst 1, 1) := by decide +kernel
theorem dX7_go_205 : decode cX7_go 205 = .ok (.goto 4, 3) := by decide +kernel
theorem dX7_go_208 : decode cX7_go 208 = .ok (.iconst 0, 1) := by decide +kernel
theorem dX7_go_209 : decode cX7_go 209 = .ok (.bastore, 1) := by decide +kernel
theorem dX7_go_210 : decode cX7_go 210 = .ok (.iinc 4 1, 3) := by decide +kernel
theorem dX7_go_213 : decode cX7_go 213 = .ok (.goto (-46), 3) := by decide +kernel
theorem dX7_go_216 : decode cX7_go 216 = .ok (.iconst (-1), 1) := by decide +kernel
theorem dX7_go_217 : decode cX7_go 217 = .ok (.istore 4, 2) := by decide +kernel
theorem dX7_go_219 : decode cX7_go 219 = .ok (.iconst 0, 1) := by decide +kernel
theorem dX7_go_220 : decode cX7_go 220 = .ok (.istore 5, 2) := by decide +kernel
theorem dX7_go_222 : decode cX7_go 222 = .ok (.iconst 0, 1) := by decide +kernel
theorem dX7_go_223 : decode cX7_go 223 = .ok (.istore 6, 2) := by decide +kernel
theorem dX7_go_225 : decode cX7_go 225 = .ok (.iconst 0, 1) := by decide +kernel
theorem dX7_go_226 : decode cX7_go 226 = .ok (.istore 7, 2) := by decide +kernel
theorem dX7_go_228 : decode cX7_go 228 = .ok (.iload 7, 2) := by decide +kernel
theorem dX7_go_230 : decode cX7_go 230 = .ok (.iload_n 2, 1) := by decide +kernel
theorem dX7_go_231 : decode cX7_go 231 = .ok (.if_icmp .ge 99, 3) := by decide +kernel
theorem dX7_go_234 : decode cX7_go 234 = .ok (.iload_n 3, 1) := by decide +kernel
theorem dX7_go_235 : decode cX7_go 235 = .ok (.ifCond .eq 95, 3) := by decide +kernel
theorem dX7_go_238 : decode cX7_go 238 = .ok (.aload_n 0, 1) := by decide +kernel
theorem dX7_go_239 : decode cX7_go 239 = .ok (.getfield 79, 3) := by decide +kernel
theorem dX7_go_242 : decode cX7_go 242 = .ok (.iload 7, 2) := by decide +kernel
theorem dX7_go_244 : decode cX7_go 244 = .ok (.baload, 1) := by decide +kernel
theorem dX7_go_245 : decode cX7_go 245 = .ok (.ifCond .ne 6, 3) := by decide +kernel
theorem dX7_go_248 : decode cX7_go 248 = .ok (.goto 76, 3) := by decide +kernel
theorem dX7_go_251 : decode cX7_go 251 = .ok (.iload 7, 2) := by decide +kernel
theorem dX7_go_253 : decode cX7_go 253 = .ok (.bipush 7, 2) := by decide +kernel
theorem dX7_go_255 : decode cX7_go 255 = .ok (.idiv, 1) := by decide +kernel
theorem dX7_go_256 : decode cX7_go 256 = .ok (.istore 8, 2) := by decide +kernel
theorem dX7_go_258 : decode cX7_go 258 = .ok (.iload 4, 2) := by decide +kernel
theorem dX7_go_260 : decode cX7_go 260 = .ok (.iconst (-1), 1) := by decide +kernel
theorem dX7_go_261 : decode cX7_go 261 = .ok (.if_icmp .eq 20, 3) := by decide +kernel
theorem dX7_go_264 : decode cX7_go 264 = .ok (.iload 7, 2) := by decide +kernel
theorem dX7_go_266 : decode cX7_go 266 = .ok (.iload 4, 2) := by decide +kernel
theorem dX7_go_268 : decode cX7_go 268 = .ok (.isub, 1) := by decide +kernel
theorem dX7_go_269 : decode cX7_go 269 = .ok (.iconst 1, 1) := by decide +kernel
theorem dX7_go_270 : decode cX7_go 270 = .ok (.isub, 1) := by decide +kernel
theorem dX7_go_271 : decode cX7_go 271 = .ok (.aload_n 0, 1) := by decide +kernel
theorem dX7_go_272 : decode cX7_go 272 = .ok (.iconst 5, 1) := by decide +kernel
theorem dX7_go_273 : decode cX7_go 273 = .ok (.iload 8, 2) := by decide +kernel
theorem dX7_go_275 : decode cX7_go 275 = .ok (.invokevirtual 114, 3) := by decide +kernel
theorem dX7_go_278 : decode cX7_go 278 = .ok (.if_icmp .le 10, 3) := by decide +kernel
theorem dX7_go_281 : decode cX7_go 281 = .ok (.iload 8, 2) := by decide +kernel
theorem dX7_go_283 : decode cX7_go 283 = .ok (.istore 5, 2) := by decide +kernel
theorem dX7_go_285 : decode cX7_go 285 = .ok (.iconst 0, 1) := by decide +kernel
theorem dX7_go_286 : decode cX7_go 286 = .ok (.istore 6, 2) := by decide +kernel
theorem dX7_go_288 : decode cX7_go 288 = .ok (.iinc 6 1, 3) := by decide +kernel
theorem dX7_go_291 : decode cX7_go 291 = .ok (.iload 7, 2) := by decide +kernel
theorem dX7_go_293 : decode cX7_go 293 = .ok (.istore 4, 2) := by decide +kernel
theorem dX7_go_295 : decode cX7_go 295 = .ok (.aload_n 0, 1) := by decide +kernel
theorem dX7_go_296 : decode cX7_go 296 = .ok (.iload 7, 2) := by decide +kernel
theorem dX7_go_298 : decode cX7_go 298 = .ok (.iload 8, 2) := by decide +kernel
theorem dX7_go_300 : decode cX7_go 300 = .ok (.iload 5, 2) := by decide +kernel
theorem dX7_go_302 : decode cX7_go 302 = .ok (.iload 6, 2) := by decide +kernel
theorem dX7_go_304 : decode cX7_go 304 = .ok (.invokevirtual 128, 3) := by decide +kernel
theorem dX7_go_307 : decode cX7_go 307 = .ok (.aload_n 0, 1) := by decide +kernel
theorem dX7_go_308 : decode cX7_go 308 = .ok (.getfield 86, 3) := by decide +kernel
theorem dX7_go_311 : decode cX7_go 311 = .ok (.iload 8, 2) := by decide +kernel
theorem dX7_go_313 : decode cX7_go 313 = .ok (.dup2, 1) := by decide +kernel
theorem dX7_go_314 : decode cX7_go 314 = .ok (.iaload, 1) := by decide +kernel
theorem dX7_go_315 : decode cX7_go 315 = .ok (.aload_n 0, 1) := by decide +kernel
theorem dX7_go_316 : decode cX7_go 316 = .ok (.getfield 76, 3) := by decide +kernel
theorem dX7_go_319 : decode cX7_go 319 = .ok (.iload 7, 2) := by decide +kernel
theorem dX7_go_321 : decode cX7_go 321 = .ok (.iaload, 1) := by decide +kernel
theorem dX7_go_322 : decode cX7_go 322 = .ok (.iadd, 1) := by decide +kernel
theorem dX7_go_323 : decode cX7_go 323 = .ok (.iastore, 1) := by decide +kernel
theorem dX7_go_324 : decode cX7_go 324 = .ok (.iinc 7 1, 3) := by decide +kernel
theorem dX7_go_327 : decode cX7_go 327 = .ok (.goto (-99), 3) := by decide +kernel
theorem dX7_go_330 : decode cX7_go 330 = .ok (.return_, 1) := by decide +kernel
theorem dX7_grantDay_0 : decode cX7_grantDay 0 = .ok (.aload_n 0, 1) := by decide +kernel
theorem dX7_grantDay_1 : decode cX7_grantDay 1 = .ok (.iconst 1, 1) := by decide +kernel
theorem dX7_grantDay_2 : decode cX7_grantDay 2 = .ok (.iload_n 3, 1) := by decide +kernel
theorem dX7_grantDay_3 : decode cX7_grantDay 3 = .ok (.invokevirtual 114, 3) := by decide +kernel
theorem dX7_grantDay_6 : decode cX7_grantDay 6 = .ok (.istore 5, 2) := by decide +kernel
theorem dX7_grantDay_8 : decode cX7_grantDay 8 = .ok (.iload 5, 2) := by decide +kernel
theorem dX7_grantDay_10 : decode cX7_grantDay 10 = .ok (.aload_n 0, 1) := by decide +kernel
theorem dX7_grantDay_11 : decode cX7_grantDay 11 = .ok (.iconst 3, 1) := by decide +kernel
theorem dX7_grantDay_12 : decode cX7_grantDay 12 = .ok (.iload_n 3, 1) := by decide +kernel
theorem dX7_grantDay_13 : decode cX7_grantDay 13 = .ok (.invokevirtual 114, 3) := by decide +kernel
theorem dX7_grantDay_16 : decode cX7_grantDay 16 = .ok (.iadd, 1) := by decide +kernel
theorem dX7_grantDay_17 : decode cX7_grantDay 17 = .ok (.istore 6, 2) := by decide +kernel
theorem dX7_grantDay_19 : decode cX7_grantDay 19 = .ok (.iload 6, 2) := by decide +kernel
theorem dX7_grantDay_21 : decode cX7_grantDay 21 = .ok (.aload_n 0, 1) := by decide +kernel
theorem dX7_grantDay_22 : decode cX7_grantDay 22 = .ok (.iconst 4, 1) := by decide +kernel
theorem dX7_grantDay_23 : decode cX7_grantDay 23 = .ok (.iload_n 3, 1) := by decide +kernel
theorem dX7_grantDay_24 : decode cX7_grantDay 24 = .ok (.invokevirtual 114, 3) := by decide +kernel
theorem dX7_grantDay_27 : decode cX7_grantDay 27 = .ok (.iadd, 1) := by decide +kernel
theorem dX7_grantDay_28 : decode cX7_grantDay 28 = .ok (.istore 7, 2) := by decide +kernel
theorem dX7_grantDay_30 : decode cX7_grantDay 30 = .ok (.aload_n 0, 1) := by decide +kernel
theorem dX7_grantDay_31 : decode cX7_grantDay 31 = .ok (.iconst 2, 1) := by decide +kernel
theorem dX7_grantDay_32 : decode cX7_grantDay 32 = .ok (.iload_n 2, 1) := by decide +kernel
theorem dX7_grantDay_33 : decode cX7_grantDay 33 = .ok (.invokevirtual 114, 3) := by decide +kernel
theorem dX7_grantDay_36 : decode cX7_grantDay 36 = .ok (.istore 8, 2) := by decide +kernel
theorem dX7_grantDay_38 : decode cX7_grantDay 38 = .ok (.aload_n 0, 1) := by decide +kernel
theorem dX7_grantDay_39 : decode cX7_grantDay 39 = .ok (.getfield 73, 3) := by decide +kernel
theorem dX7_grantDay_42 : decode cX7_grantDay 42 = .ok (.iload_n 1, 1) := by decide +kernel
theorem dX7_grantDay_43 : decode cX7_grantDay 43 = .ok (.iload 4, 2) := by decide +kernel
theorem dX7_grantDay_45 : decode cX7_grantDay 45 = .ok (.iload 5, 2) := by decide +kernel
theorem dX7_grantDay_47 : decode cX7_grantDay 47 = .ok (.if_icmp .gt 7, 3) := by decide +kernel
theorem dX7_grantDay_50 : decode cX7_grantDay 50 = .ok (.iconst 1, 1) := by decide +kernel
theorem dX7_grantDay_51 : decode cX7_grantDay 51 = .ok (.goto 26, 3) := by decide +kernel
theorem dX7_grantDay_54 : decode cX7_grantDay 54 = .ok (.iload 4, 2) := by decide +kernel
theorem dX7_grantDay_56 : decode cX7_grantDay 56 = .ok (.iload 6, 2) := by decide +kernel
theorem dX7_grantDay_58 : decode cX7_grantDay 58 = .ok (.if_icmp .gt 7, 3) := by decide +kernel
theorem dX7_grantDay_61 : decode cX7_grantDay 61 = .ok (.iconst 2, 1) := by decide +kernel
theorem dX7_grantDay_62 : decode cX7_grantDay 62 = .ok (.goto 15, 3) := by decide +kernel
theorem dX7_grantDay_65 : decode cX7_grantDay 65 = .ok (.iload 4, 2) := by decide +kernel
theorem dX7_grantDay_67 : decode cX7_grantDay 67 = .ok (.iload 7, 2) := by decide +kernel
theorem dX7_grantDay_69 : decode cX7_grantDay 69 = .ok (.if_icmp .gt 7, 3) := by decide +kernel
theorem dX7_grantDay_72 : decode cX7_grantDay 72 = .ok (.iconst 3, 1) := by decide +kernel
theorem dX7_grantDay_73 : decode cX7_grantDay 73 = .ok (.goto 4, 3) := by decide +kernel
theorem dX7_grantDay_76 : decode cX7_grantDay 76 = .ok (.iconst 4, 1) := by decide +kernel
theorem dX7_grantDay_77 : decode cX7_grantDay 77 = .ok (.iastore, 1) := by decide +kernel
theorem dX7_grantDay_78 : decode cX7_grantDay 78 = .ok (.aload_n 0, 1) := by decide +kernel
theorem dX7_grantDay_79 : decode cX7_grantDay 79 = .ok (.getfield 76, 3) := by decide +kernel
theorem dX7_grantDay_82 : decode cX7_grantDay 82 = .ok (.iload_n 1, 1) := by decide +kernel
theorem dX7_grantDay_83 : decode cX7_grantDay 83 = .ok (.iload 4, 2) := by decide +kernel
theorem dX7_grantDay_85 : decode cX7_grantDay 85 = .ok (.iload 5, 2) := by decide +kernel
theorem dX7_grantDay_87 : decode cX7_grantDay 87 = .ok (.if_icmp .gt 7, 3) := by decide +kernel
theorem dX7_grantDay_90 : decode cX7_grantDay 90 = .ok (.iconst 0, 1) := by decide +kernel
theorem dX7_grantDay_91 : decode cX7_grantDay 91 = .ok (.goto 33, 3) := by decide +kernel
theorem dX7_grantDay_94 : decode cX7_grantDay 94 = .ok (.iload 4, 2) := by decide +kernel
theorem dX7_grantDay_96 : decode cX7_grantDay 96 = .ok (.iload 6, 2) := by decide +kernel
theorem dX7_grantDay_98 : decode cX7_grantDay 98 = .ok (.if_icmp .gt 8, 3) := by decide +kernel
theorem dX7_grantDay_101 : decode cX7_grantDay 101 = .ok (.iload 8, 2) := by decide +kernel
theorem dX7_grantDay_103 : decode cX7_grantDay 103 = .ok (.goto 21, 3) := by decide +kernel
theorem dX7_grantDay_106 : decode cX7_grantDay 106 = .ok (.iload 4, 2) := by decide +kernel
theorem dX7_grantDay_108 : decode cX7_grantDay 108 = .ok (.iload 7, 2) := by decide +kernel
theorem dX7_grantDay_110 : decode cX7_grantDay 110 = .ok (.if_icmp .gt 10, 3) := by decide +kernel
theorem dX7_grantDay_113 : decode cX7_grantDay 113 = .ok (.iload 8, 2) := by decide +kernel
theorem dX7_grantDay_115 : decode cX7_grantDay 115 = .ok (.iconst 2, 1) := by decide +kernel
theorem dX7_grantDay_116 : decode cX7_grantDay 116 = .ok (.idiv, 1) := by decide +kernel
theorem dX7_grantDay_117 : decode cX7_grantDay 117 = .ok (.goto 7, 3) := by decide +kernel
theorem dX7_grantDay_120 : decode cX7_grantDay 120 = .ok (.iload 8, 2) := by decide +kernel
theorem dX7_grantDay_122 : decode cX7_grantDay 122 = .ok (.iconst 4, 1) := by decide +kernel
theorem dX7_grantDay_123 : decode cX7_grantDay 123 = .ok (.idiv, 1) := by decide +kernel
theorem dX7_grantDay_124 : decode cX7_grantDay 124 = .ok (.iastore, 1) := by decide +kernel
theorem dX7_grantDay_125 : decode cX7_grantDay 125 = .ok (.aload_n 0, 1) := by decide +kernel
theorem dX7_grantDay_126 : decode cX7_grantDay 126 = .ok (.getfield 83, 3) := by decide +kernel
theorem dX7_grantDay_129 : decode cX7_grantDay 129 = .ok (.iload_n 2, 1) := by decide +kernel
theorem dX7_grantDay_130 : decode cX7_grantDay 130 = .ok (.baload, 1) := by decide +kernel
theorem dX7_grantDay_131 : decode cX7_grantDay 131 = .ok (.ifCond .eq 17, 3) := by decide +kernel
theorem dX7_grantDay_134 : decode cX7_grantDay 134 = .ok (.aload_n 0, 1) := by decide +kernel
theorem dX7_grantDay_135 : decode cX7_grantDay 135 = .ok (.getfield 73, 3) := by decide +kernel
theorem dX7_grantDay_138 : decode cX7_grantDay 138 = .ok (.iload_n 1, 1) := by decide +kernel
theorem dX7_grantDay_139 : decode cX7_grantDay 139 = .ok (.iconst 5, 1) := by decide +kernel
theorem dX7_grantDay_140 : decode cX7_grantDay 140 = .ok (.iastore, 1) := by decide +kernel
theorem dX7_grantDay_141 : decode cX7_grantDay 141 = .ok (.aload_n 0, 1) := by decide +kernel
theorem dX7_grantDay_142 : decode cX7_grantDay 142 = .ok (.getfield 76, 3) := by decide +kernel
theorem dX7_grantDay_145 : decode cX7_grantDay 145 = .ok (.iload_n 1, 1) := by decide +kernel
theorem dX7_grantDay_146 : decode cX7_grantDay 146 = .ok (.iconst 0, 1) := by decide +kernel
theorem dX7_grantDay_147 : decode cX7_grantDay 147 = .ok (.iastore, 1) := by decide +kernel
theorem dX7_grantDay_148 : decode cX7_grantDay 148 = .ok (.return_, 1) := by decide +kernel
theorem dX7_join_0 : decode cX7_join 0 = .ok (.aload_n 0, 1) := by decide +kernel
theorem dX7_join_1 : decode cX7_join 1 = .ok (.getfield 92, 3) := by decide +kernel
theorem dX7_join_4 : decode cX7_join 4 = .ok (.bipush 40, 2) := by decide +kernel
theorem dX7_join_6 : decode cX7_join 6 = .ok (.if_icmp .eq 23, 3) := by decide +kernel
theorem dX7_join_9 : decode cX7_join 9 = .ok (.iload_n 1, 1) := by decide +kernel
theorem dX7_join_10 : decode cX7_join 10 = .ok (.bipush 16, 2) := by decide +kernel
theorem dX7_join_12 : decode cX7_join 12 = .ok (.bipush 60, 2) := by decide +kernel
theorem dX7_join_14 : decode cX7_join 14 = .ok (.invokestatic 96, 3) := by decide +kernel
theorem dX7_join_17 : decode cX7_join 17 = .ok (.ifCond .eq 12, 3) := by decide +kernel
theorem dX7_join_20 : decode cX7_join 20 = .ok (.iload_n 2, 1) := by decide +kernel
theorem dX7_join_21 : decode cX7_join 21 = .ok (.iconst 0, 1) := by decide +kernel
theorem dX7_join_22 : decode cX7_join 22 = .ok (.iconst 3, 1) := by decide +kernel
theorem dX7_join_23 : decode cX7_join 23 = .ok (.invokestatic 96, 3) := by decide +kernel
theorem dX7_join_26 : decode cX7_join 26 = .ok (.ifCond .ne 5, 3) := by decide +kernel
theorem dX7_join_29 : decode cX7_join 29 = .ok (.iconst (-1), 1) := by decide +kernel
theorem dX7_join_30 : decode cX7_join 30 = .ok (.ireturn, 1) := by decide +kernel
theorem dX7_join_31 : decode cX7_join 31 = .ok (.aload_n 0, 1) := by decide +kernel
theorem dX7_join_32 : decode cX7_join 32 = .ok (.getfield 9, 3) := by decide +kernel
theorem dX7_join_35 : decode cX7_join 35 = .ok (.aload_n 0, 1) := by decide +kernel
theorem dX7_join_36 : decode cX7_join 36 = .ok (.getfield 92, 3) := by decide +kernel
theorem dX7_join_39 : decode cX7_join 39 = .ok (.iload_n 1, 1) := by decide +kernel
theorem dX7_join_40 : decode cX7_join 40 = .ok (.iastore, 1) := by decide +kernel
theorem dX7_join_41 : decode cX7_join 41 = .ok (.aload_n 0, 1) := by decide +kernel
theorem dX7_join_42 : decode cX7_join 42 = .ok (.getfield 13, 3) := by decide +kernel
theorem dX7_join_45 : decode cX7_join 45 = .ok (.aload_n 0, 1) := by decide +kernel
theorem dX7_join_46 : decode cX7_join 46 = .ok (.getfield 92, 3) := by decide +kernel
theorem dX7_join_49 : decode cX7_join 49 = .ok (.iload_n 2, 1) := by decide +kernel
theorem dX7_join_50 : decode cX7_join 50 = .ok (.iastore, 1) := by decide +kernel
theorem dX7_join_51 : decode cX7_join 51 = .ok (.aload_n 0, 1) := by decide +kernel
theorem dX7_join_52 : decode cX7_join 52 = .ok (.getfield 16, 3) := by decide +kernel
theorem dX7_join_55 : decode cX7_join 55 = .ok (.aload_n 0, 1) := by decide +kernel
theorem dX7_join_56 : decode cX7_join 56 = .ok (.getfield 92, 3) := by decide +kernel
theorem dX7_join_59 : decode cX7_join 59 = .ok (.aload_n 0, 1) := by decide +kernel
theorem dX7_join_60 : decode cX7_join 60 = .ok (.getfield 100, 3) := by decide +kernel
theorem dX7_join_63 : decode cX7_join 63 = .ok (.iastore, 1) := by decide +kernel
theorem dX7_join_64 : decode cX7_join 64 = .ok (.aload_n 0, 1) := by decide +kernel
theorem dX7_join_65 : decode cX7_join 65 = .ok (.dup, 1) := by decide +kernel
theorem dX7_join_66 : decode cX7_join 66 = .ok (.getfield 92, 3) := by decide +kernel
theorem dX7_join_69 : decode cX7_join 69 = .ok (.iconst 1, 1) := by decide +kernel
theorem dX7_join_70 : decode cX7_join 70 = .ok (.iadd, 1) := by decide +kernel
theorem dX7_join_71 : decode cX7_join 71 = .ok (.putfield 92, 3) := by decide +kernel
theorem dX7_join_74 : decode cX7_join 74 = .ok (.aload_n 0, 1) := by decide +kernel
theorem dX7_join_75 : decode cX7_join 75 = .ok (.getfield 92, 3) := by decide +kernel
theorem dX7_join_78 : decode cX7_join 78 = .ok (.iconst 1, 1) := by decide +kernel
theorem dX7_join_79 : decode cX7_join 79 = .ok (.isub, 1) := by decide +kernel
theorem dX7_join_80 : decode cX7_join 80 = .ok (.ireturn, 1) := by decide +kernel
theorem dX7_pay_0 : decode cX7_pay 0 = .ok (.aload_n 0, 1) := by decide +kernel
theorem dX7_pay_1 : decode cX7_pay 1 = .ok (.iload_n 1, 1) := by decide +kernel
theorem dX7_pay_2 : decode cX7_pay 2 = .ok (.invokevirtual 132, 3) := by decide +kernel
theorem dX7_pay_5 : decode cX7_pay 5 = .ok (.ifCond .eq 14, 3) := by decide +kernel
theorem dX7_pay_8 : decode cX7_pay 8 = .ok (.iload_n 2, 1) := by decide +kernel
theorem dX7_pay_9 : decode cX7_pay 9 = .ok (.iconst 1, 1) := by decide +kernel
theorem dX7_pay_10 : decode cX7_pay 10 = .ok (.sipush 1000, 3) := by decide +kernel
theorem dX7_pay_13 : decode cX7_pay 13 = .ok (.invokestatic 96, 3) := by decide +kernel
theorem dX7_pay_16 : decode cX7_pay 16 = .ok (.ifCond .ne 6, 3) := by decide +kernel
theorem dX7_pay_19 : decode cX7_pay 19 = .ok (.ldc 136, 2) := by decide +kernel
theorem dX7_pay_21 : decode cX7_pay 21 = .ok (.ireturn, 1) := by decide +kernel
theorem dX7_pay_22 : decode cX7_pay 22 = .ok (.aload_n 0, 1) := by decide +kernel
theorem dX7_pay_23 : decode cX7_pay 23 = .ok (.getfield 19, 3) := by decide +kernel
theorem dX7_pay_26 : decode cX7_pay 26 = .ok (.sipush 301, 3) := by decide +kernel
theorem dX7_pay_29 : decode cX7_pay 29 = .ok (.iload_n 1, 1) := by decide +kernel
theorem dX7_pay_30 : decode cX7_pay 30 = .ok (.imul, 1) := by decide +kernel
theorem dX7_pay_31 : decode cX7_pay 31 = .ok (.aload_n 0, 1) := by decide +kernel
theorem dX7_pay_32 : decode cX7_pay 32 = .ok (.getfield 100, 3) := by decide +kernel
theorem dX7_pay_35 : decode cX7_pay 35 = .ok (.iadd, 1) := by decide +kernel
theorem dX7_pay_36 : decode cX7_pay 36 = .ok (.dup2, 1) := by decide +kernel
theorem dX7_pay_37 : decode cX7_pay 37 = .ok (.iaload, 1) := by decide +kernel
theorem dX7_pay_38 : decode cX7_pay 38 = .ok (.iload_n 2, 1) := by decide +kernel
theorem dX7_pay_39 : decode cX7_pay 39 = .ok (.iadd, 1) := by decide +kernel
theorem dX7_pay_40 : decode cX7_pay 40 = .ok (.iastore, 1) := by decide +kernel
theorem dX7_pay_41 : decode cX7_pay 41 = .ok (.aload_n 0, 1) := by decide +kernel
theorem dX7_pay_42 : decode cX7_pay 42 = .ok (.aload_n 0, 1) := by decide +kernel
theorem dX7_pay_43 : decode cX7_pay 43 = .ok (.getfield 100, 3) := by decide +kernel
theorem dX7_pay_46 : decode cX7_pay 46 = .ok (.aload_n 0, 1) := by decide +kernel
theorem dX7_pay_47 : decode cX7_pay 47 = .ok (.getfield 137, 3) := by decide +kernel
theorem dX7_pay_50 : decode cX7_pay 50 = .ok (.invokevirtual 140, 3) := by decide +kernel
theorem dX7_pay_53 : decode cX7_pay 53 = .ok (.aload_n 0, 1) := by decide +kernel
theorem dX7_pay_54 : decode cX7_pay 54 = .ok (.iload_n 1, 1) := by decide +kernel
theorem dX7_pay_55 : decode cX7_pay 55 = .ok (.aload_n 0, 1) := by decide +kernel
theorem dX7_pay_56 : decode cX7_pay 56 = .ok (.getfield 100, 3) := by decide +kernel
theorem dX7_pay_59 : decode cX7_pay 59 = .ok (.invokevirtual 118, 3) := by decide +kernel
theorem dX7_pay_62 : decode cX7_pay 62 = .ok (.ireturn, 1) := by decide +kernel
theorem dX7_write_0 : decode cX7_write 0 = .ok (.aload_n 0, 1) := by decide +kernel
theorem dX7_write_1 : decode cX7_write 1 = .ok (.getfield 22, 3) := by decide +kernel
theorem dX7_write_4 : decode cX7_write 4 = .ok (.aload_n 0, 1) := by decide +kernel
theorem dX7_write_5 : decode cX7_write 5 = .ok (.getfield 137, 3) := by decide +kernel
theorem dX7_write_8 : decode cX7_write 8 = .ok (.iload_n 1, 1) := by decide +kernel
theorem dX7_write_9 : decode cX7_write 9 = .ok (.iastore, 1) := by decide +kernel
theorem dX7_write_10 : decode cX7_write 10 = .ok (.aload_n 0, 1) := by decide +kernel
theorem dX7_write_11 : decode cX7_write 11 = .ok (.getfield 25, 3) := by decide +kernel
theorem dX7_write_14 : decode cX7_write 14 = .ok (.aload_n 0, 1) := by decide +kernel
theorem dX7_write_15 : decode cX7_write 15 = .ok (.getfield 137, 3) := by decide +kernel
theorem dX7_write_18 : decode cX7_write 18 = .ok (.iload_n 2, 1) := by decide +kernel
theorem dX7_write_19 : decode cX7_write 19 = .ok (.iastore, 1) := by decide +kernel
theorem dX7_write_20 : decode cX7_write 20 = .ok (.aload_n 0, 1) := by decide +kernel
theorem dX7_write_21 : decode cX7_write 21 = .ok (.getfield 28, 3) := by decide +kernel
theorem dX7_write_24 : decode cX7_write 24 = .ok (.aload_n 0, 1) := by decide +kernel
theorem dX7_write_25 : decode cX7_write 25 = .ok (.getfield 137, 3) := by decide +kernel
theorem dX7_write_28 : decode cX7_write 28 = .ok (.iload_n 3, 1) := by decide +kernel
theorem dX7_write_29 : decode cX7_write 29 = .ok (.iastore, 1) := by decide +kernel
theorem dX7_write_30 : decode cX7_write 30 = .ok (.aload_n 0, 1) := by decide +kernel
theorem dX7_write_31 : decode cX7_write 31 = .ok (.getfield 31, 3) := by decide +kernel
theorem dX7_write_34 : decode cX7_write 34 = .ok (.aload_n 0, 1) := by decide +kernel
theorem dX7_write_35 : decode cX7_write 35 = .ok (.getfield 137, 3) := by decide +kernel
theorem dX7_write_38 : decode cX7_write 38 = .ok (.aload_n 0, 1) := by decide +kernel
theorem dX7_write_39 : decode cX7_write 39 = .ok (.getfield 100, 3) := by decide +kernel
theorem dX7_write_42 : decode cX7_write 42 = .ok (.iastore, 1) := by decide +kernel
theorem dX7_write_43 : decode cX7_write 43 = .ok (.return_, 1) := by decide +kernel
theorem dX7_isRule_0 : decode cX7_isRule 0 = .ok (.iload_n 0, 1) := by decide +kernel
theorem dX7_isRule_1 : decode cX7_isRule 1 = .ok (.iconst 0, 1) := by decide +kernel
theorem dX7_isRule_2 : decode cX7_isRule 2 = .ok (.bipush 6, 2) := by decide +kernel
theorem dX7_isRule_4 : decode cX7_isRule 4 = .ok (.invokestatic 96, 3) := by decide +kernel
theorem dX7_isRule_7 : decode cX7_isRule 7 = .ok (.ifCond .eq 26, 3) := by decide +kernel
theorem dX7_isRule_10 : decode cX7_isRule 10 = .ok (.iload_n 1, 1) := by decide +kernel
theorem dX7_isRule_11 : decode cX7_isRule 11 = .ok (.iconst 0, 1) := by decide +kernel
theorem dX7_isRule_12 : decode cX7_isRule 12 = .ok (.sipush 1000, 3) := by decide +kernel
theorem dX7_isRule_15 : decode cX7_isRule 15 = .ok (.invokestatic 96, 3) := by decide +kernel
theorem dX7_isRule_18 : decode cX7_isRule 18 = .ok (.ifCond .eq 15, 3) := by decide +kernel
theorem dX7_isRule_21 : decode cX7_isRule 21 = .ok (.iload_n 0, 1) := by decide +kernel
theorem dX7_isRule_22 : decode cX7_isRule 22 = .ok (.iload_n 2, 1) := by decide +kernel
theorem dX7_isRule_23 : decode cX7_isRule 23 = .ok (.invokestatic 144, 3) := by decide +kernel
theorem dX7_isRule_26 : decode cX7_isRule 26 = .ok (.ifCond .eq 7, 3) := by decide +kernel
theorem dX7_isRule_29 : decode cX7_isRule 29 = .ok (.iconst 1, 1) := by decide +kernel
theorem dX7_isRule_30 : decode cX7_isRule 30 = .ok (.goto 4, 3) := by decide +kernel
theorem dX7_isRule_33 : decode cX7_isRule 33 = .ok (.iconst 0, 1) := by decide +kernel
theorem dX7_isRule_34 : decode cX7_isRule 34 = .ok (.ireturn, 1) := by decide +kernel
theorem dX7_rule_0 : decode cX7_rule 0 = .ok (.iload_n 1, 1) := by decide +kernel
theorem dX7_rule_1 : decode cX7_rule 1 = .ok (.iload_n 2, 1) := by decide +kernel
theorem dX7_rule_2 : decode cX7_rule 2 = .ok (.iload_n 3, 1) := by decide +kernel
theorem dX7_rule_3 : decode cX7_rule 3 = .ok (.invokestatic 147, 3) := by decide +kernel
theorem dX7_rule_6 : decode cX7_rule 6 = .ok (.ifCond .eq 13, 3) := by decide +kernel
theorem dX7_rule_9 : decode cX7_rule 9 = .ok (.aload_n 0, 1) := by decide +kernel
theorem dX7_rule_10 : decode cX7_rule 10 = .ok (.getfield 137, 3) := by decide +kernel
theorem dX7_rule_13 : decode cX7_rule 13 = .ok (.sipush 200, 3) := by decide +kernel
theorem dX7_rule_16 : decode cX7_rule 16 = .ok (.if_icmp .ne 5, 3) := by decide +kernel
theorem dX7_rule_19 : decode cX7_rule 19 = .ok (.iconst (-1), 1) := by decide +kernel
theorem dX7_rule_20 : decode cX7_rule 20 = .ok (.ireturn, 1) := by decide +kernel
theorem dX7_rule_21 : decode cX7_rule 21 = .ok (.aload_n 0, 1) := by decide +kernel
theorem dX7_rule_22 : decode cX7_rule 22 = .ok (.iload_n 1, 1) := by decide +kernel
theorem dX7_rule_23 : decode cX7_rule 23 = .ok (.iload_n 2, 1) := by decide +kernel
theorem dX7_rule_24 : decode cX7_rule 24 = .ok (.iload_n 3, 1) := by decide +kernel
theorem dX7_rule_25 : decode cX7_rule 25 = .ok (.invokevirtual 150, 3) := by decide +kernel
theorem dX7_rule_28 : decode cX7_rule 28 = .ok (.aload_n 0, 1) := by decide +kernel
theorem dX7_rule_29 : decode cX7_rule 29 = .ok (.dup, 1) := by decide +kernel
theorem dX7_rule_30 : decode cX7_rule 30 = .ok (.getfield 137, 3) := by decide +kernel
theorem dX7_rule_33 : decode cX7_rule 33 = .ok (.iconst 1, 1) := by decide +kernel
theorem dX7_rule_34 : decode cX7_rule 34 = .ok (.iadd, 1) := by decide +kernel
theorem dX7_rule_35 : decode cX7_rule 35 = .ok (.putfield 137, 3) := by decide +kernel
theorem dX7_rule_38 : decode cX7_rule 38 = .ok (.aload_n 0, 1) := by decide +kernel
theorem dX7_rule_39 : decode cX7_rule 39 = .ok (.getfield 137, 3) := by decide +kernel
theorem dX7_rule_42 : decode cX7_rule 42 = .ok (.ireturn, 1) := by decide +kernel
theorem dX7_paper_0 : decode cX7_paper 0 = .ok (.aload_n 0, 1) := by decide +kernel
theorem dX7_paper_1 : decode cX7_paper 1 = .ok (.iload_n 1, 1) := by decide +kernel
theorem dX7_paper_2 : decode cX7_paper 2 = .ok (.invokevirtual 132, 3) := by decide +kernel
theorem dX7_paper_5 : decode cX7_paper 5 = .ok (.ifCond .eq 54, 3) := by decide +kernel
theorem dX7_paper_8 : decode cX7_paper 8 = .ok (.iload_n 2, 1) := by decide +kernel
theorem dX7_paper_9 : decode cX7_paper 9 = .ok (.iload_n 3, 1) := by decide +kernel
theorem dX7_paper_10 : decode cX7_paper 10 = .ok (.if_icmp .gt 49, 3) := by decide +kernel
theorem dX7_paper_13 : decode cX7_paper 13 = .ok (.iload_n 2, 1) := by decide +kernel
theorem dX7_paper_14 : decode cX7_paper 14 = .ok (.bipush 7, 2) := by decide +kernel
theorem dX7_paper_16 : decode cX7_paper 16 = .ok (.aload_n 0, 1) := by decide +kernel
theorem dX7_paper_17 : decode cX7_paper 17 = .ok (.getfield 16, 3) := by decide +kernel
theorem dX7_paper_20 : decode cX7_paper 20 = .ok (.iload_n 1, 1) := by decide +kernel
theorem dX7_paper_21 : decode cX7_paper 21 = .ok (.iaload, 1) := by decide +kernel
theorem dX7_paper_22 : decode cX7_paper 22 = .ok (.imul, 1) := by decide +kernel
theorem dX7_paper_23 : decode cX7_paper 23 = .ok (.if_icmp .lt 36, 3) := by decide +kernel
theorem dX7_paper_26 : decode cX7_paper 26 = .ok (.iload_n 3, 1) := by decide +kernel
theorem dX7_paper_27 : decode cX7_paper 27 = .ok (.bipush 7, 2) := by decide +kernel
theorem dX7_paper_29 : decode cX7_paper 29 = .ok (.aload_n 0, 1) := by decide +kernel
theorem dX7_paper_30 : decode cX7_paper 30 = .ok (.getfield 100, 3) := by decide +kernel
theorem dX7_paper_33 : decode cX7_paper 33 = .ok (.imul, 1) := by decide +kernel
theorem dX7_paper_34 : decode cX7_paper 34 = .ok (.bipush 6, 2) := by decide +kernel
theorem dX7_paper_36 : decode cX7_paper 36 = .ok (.iadd, 1) := by decide +kernel
theorem dX7_paper_37 : decode cX7_paper 37 = .ok (.if_icmp .gt 22, 3) := by decide +kernel
theorem dX7_paper_40 : decode cX7_paper 40 = .ok (.iload_n 3, 1) := by decide +kernel
theorem dX7_paper_41 : decode cX7_paper 41 = .ok (.iload_n 2, 1) := by decide +kernel
theorem dX7_paper_42 : decode cX7_paper 42 = .ok (.isub, 1) := by decide +kernel
theorem dX7_paper_43 : decode cX7_paper 43 = .ok (.sipush 400, 3) := by decide +kernel
theorem dX7_paper_46 : decode cX7_paper 46 = .ok (.if_icmp .ge 13, 3) := by decide +kernel
theorem dX7_paper_49 : decode cX7_paper 49 = .ok (.aload_n 0, 1) := by decide +kernel
theorem dX7_paper_50 : decode cX7_paper 50 = .ok (.getfield 121, 3) := by decide +kernel
theorem dX7_paper_53 : decode cX7_paper 53 = .ok (.sipush 200, 3) := by decide +kernel
theorem dX7_paper_56 : decode cX7_paper 56 = .ok (.if_icmp .ne 5, 3) := by decide +kernel
theorem dX7_paper_59 : decode cX7_paper 59 = .ok (.iconst (-1), 1) := by decide +kernel
theorem dX7_paper_60 : decode cX7_paper 60 = .ok (.ireturn, 1) := by decide +kernel
theorem dX7_paper_61 : decode cX7_paper 61 = .ok (.aload_n 0, 1) := by decide +kernel
theorem dX7_paper_62 : decode cX7_paper 62 = .ok (.getfield 34, 3) := by decide +kernel
theorem dX7_paper_65 : decode cX7_paper 65 = .ok (.aload_n 0, 1) := by decide +kernel
theorem dX7_paper_66 : decode cX7_paper 66 = .ok (.getfield 121, 3) := by decide +kernel
theorem dX7_paper_69 : decode cX7_paper 69 = .ok (.iload_n 1, 1) := by decide +kernel
theorem dX7_paper_70 : decode cX7_paper 70 = .ok (.iastore, 1) := by decide +kernel
theorem dX7_paper_71 : decode cX7_paper 71 = .ok (.aload_n 0, 1) := by decide +kernel
theorem dX7_paper_72 : decode cX7_paper 72 = .ok (.getfield 37, 3) := by decide +kernel
theorem dX7_paper_75 : decode cX7_paper 75 = .ok (.aload_n 0, 1) := by decide +kernel
theorem dX7_paper_76 : decode cX7_paper 76 = .ok (.getfield 121, 3) := by decide +kernel
theorem dX7_paper_79 : decode cX7_paper 79 = .ok (.iload_n 2, 1) := by decide +kernel
theorem dX7_paper_80 : decode cX7_paper 80 = .ok (.iastore, 1) := by decide +kernel
theorem dX7_paper_81 : decode cX7_paper 81 = .ok (.aload_n 0, 1) := by decide +kernel
theorem dX7_paper_82 : decode cX7_paper 82 = .ok (.getfield 40, 3) := by decide +kernel
theorem dX7_paper_85 : decode cX7_paper 85 = .ok (.aload_n 0, 1) := by decide +kernel
theorem dX7_paper_86 : decode cX7_paper 86 = .ok (.getfield 121, 3) := by decide +kernel
theorem dX7_paper_89 : decode cX7_paper 89 = .ok (.iload_n 3, 1) := by decide +kernel
theorem dX7_paper_90 : decode cX7_paper 90 = .ok (.iastore, 1) := by decide +kernel
theorem dX7_paper_91 : decode cX7_paper 91 = .ok (.aload_n 0, 1) := by decide +kernel
theorem dX7_paper_92 : decode cX7_paper 92 = .ok (.getfield 43, 3) := by decide +kernel
theorem dX7_paper_95 : decode cX7_paper 95 = .ok (.aload_n 0, 1) := by decide +kernel
theorem dX7_paper_96 : decode cX7_paper 96 = .ok (.getfield 121, 3) := by decide +kernel
theorem dX7_paper_99 : decode cX7_paper 99 = .ok (.aload_n 0, 1) := by decide +kernel
theorem dX7_paper_100 : decode cX7_paper 100 = .ok (.getfield 100, 3) := by decide +kernel
theorem dX7_paper_103 : decode cX7_paper 103 = .ok (.iastore, 1) := by decide +kernel
theorem dX7_paper_104 : decode cX7_paper 104 = .ok (.aload_n 0, 1) := by decide +kernel
theorem dX7_paper_105 : decode cX7_paper 105 = .ok (.getfield 46, 3) := by decide +kernel
theorem dX7_paper_108 : decode cX7_paper 108 = .ok (.aload_n 0, 1) := by decide +kernel
theorem dX7_paper_109 : decode cX7_paper 109 = .ok (.getfield 121, 3) := by decide +kernel
theorem dX7_paper_112 : decode cX7_paper 112 = .ok (.iconst (-1), 1) := by decide +kernel
theorem dX7_paper_113 : decode cX7_paper 113 = .ok (.iastore, 1) := by decide +kernel
theorem dX7_paper_114 : decode cX7_paper 114 = .ok (.aload_n 0, 1) := by decide +kernel
theorem dX7_paper_115 : decode cX7_paper 115 = .ok (.dup, 1) := by decide +kernel
theorem dX7_paper_116 : decode cX7_paper 116 = .ok (.getfield 121, 3) := by decide +kernel
theorem dX7_paper_119 : decode cX7_paper 119 = .ok (.iconst 1, 1) := by decide +kernel
theorem dX7_paper_120 : decode cX7_paper 120 = .ok (.iadd, 1) := by decide +kernel
theorem dX7_paper_121 : decode cX7_paper 121 = .ok (.putfield 121, 3) := by decide +kernel
theorem dX7_paper_124 : decode cX7_paper 124 = .ok (.aload_n 0, 1) := by decide +kernel
theorem dX7_paper_125 : decode cX7_paper 125 = .ok (.getfield 121, 3) := by decide +kernel
theorem dX7_paper_128 : decode cX7_paper 128 = .ok (.iconst 1, 1) := by decide +kernel
theorem dX7_paper_129 : decode cX7_paper 129 = .ok (.isub, 1) := by decide +kernel
theorem dX7_paper_130 : decode cX7_paper 130 = .ok (.ireturn, 1) := by decide +kernel
theorem dX7_back_0 : decode cX7_back 0 = .ok (.iload_n 1, 1) := by decide +kernel
theorem dX7_back_1 : decode cX7_back 1 = .ok (.iconst 0, 1) := by decide +kernel
theorem dX7_back_2 : decode cX7_back 2 = .ok (.aload_n 0, 1) := by decide +kernel
theorem dX7_back_3 : decode cX7_back 3 = .ok (.getfield 121, 3) := by decide +kernel
theorem dX7_back_6 : decode cX7_back 6 = .ok (.iconst 1, 1) := by decide +kernel
theorem dX7_back_7 : decode cX7_back 7 = .ok (.isub, 1) := by decide +kernel
theorem dX7_back_8 : decode cX7_back 8 = .ok (.invokestatic 96, 3) := by decide +kernel
theorem dX7_back_11 : decode cX7_back 11 = .ok (.ifCond .eq 13, 3) := by decide +kernel
theorem dX7_back_14 : decode cX7_back 14 = .ok (.aload_n 0, 1) := by decide +kernel
theorem dX7_back_15 : decode cX7_back 15 = .ok (.getfield 46, 3) := by decide +kernel
theorem dX7_back_18 : decode cX7_back 18 = .ok (.iload_n 1, 1) := by decide +kernel
theorem dX7_back_19 : decode cX7_back 19 = .ok (.iaload, 1) := by decide +kernel
theorem dX7_back_20 : decode cX7_back 20 = .ok (.iconst (-1), 1) := by decide +kernel
theorem dX7_back_21 : decode cX7_back 21 = .ok (.if_icmp .eq 5, 3) := by decide +kernel
theorem dX7_back_24 : decode cX7_back 24 = .ok (.iconst 0, 1) := by decide +kernel
theorem dX7_back_25 : decode cX7_back 25 = .ok (.ireturn, 1) := by decide +kernel
theorem dX7_back_26 : decode cX7_back 26 = .ok (.aload_n 0, 1) := by decide +kernel
theorem dX7_back_27 : decode cX7_back 27 = .ok (.getfield 46, 3) := by decide +kernel
theorem dX7_back_30 : decode cX7_back 30 = .ok (.iload_n 1, 1) := by decide +kernel
theorem dX7_back_31 : decode cX7_back 31 = .ok (.aload_n 0, 1) := by decide +kernel
theorem dX7_back_32 : decode cX7_back 32 = .ok (.getfield 100, 3) := by decide +kernel
theorem dX7_back_35 : decode cX7_back 35 = .ok (.iastore, 1) := by decide +kernel
theorem dX7_back_36 : decode cX7_back 36 = .ok (.iconst 1, 1) := by decide +kernel
theorem dX7_back_37 : decode cX7_back 37 = .ok (.ireturn, 1) := by decide +kernel
theorem dX7_week_0 : decode cX7_week 0 = .ok (.aload_n 0, 1) := by decide +kernel
theorem dX7_week_1 : decode cX7_week 1 = .ok (.getfield 100, 3) := by decide +kernel
theorem dX7_week_4 : decode cX7_week 4 = .ok (.sipush 300, 3) := by decide +kernel
theorem dX7_week_7 : decode cX7_week 7 = .ok (.if_icmp .ne 5, 3) := by decide +kernel
theorem dX7_week_10 : decode cX7_week 10 = .ok (.iconst (-1), 1) := by decide +kernel
theorem dX7_week_11 : decode cX7_week 11 = .ok (.ireturn, 1) := by decide +kernel
theorem dX7_week_12 : decode cX7_week 12 = .ok (.aload_n 0, 1) := by decide +kernel
theorem dX7_week_13 : decode cX7_week 13 = .ok (.aload_n 0, 1) := by decide +kernel
theorem dX7_week_14 : decode cX7_week 14 = .ok (.getfield 100, 3) := by decide +kernel
theorem dX7_week_17 : decode cX7_week 17 = .ok (.aload_n 0, 1) := by decide +kernel
theorem dX7_week_18 : decode cX7_week 18 = .ok (.getfield 137, 3) := by decide +kernel
theorem dX7_week_21 : decode cX7_week 21 = .ok (.invokevirtual 140, 3) := by decide +kernel
theorem dX7_week_24 : decode cX7_week 24 = .ok (.iconst 0, 1) := by decide +kernel
theorem dX7_week_25 : decode cX7_week 25 = .ok (.istore_n 1, 1) := by decide +kernel
theorem dX7_week_26 : decode cX7_week 26 = .ok (.iconst 0, 1) := by decide +kernel
theorem dX7_week_27 : decode cX7_week 27 = .ok (.istore_n 2, 1) := by decide +kernel
theorem dX7_week_28 : decode cX7_week 28 = .ok (.iload_n 2, 1) := by decide +kernel
theorem dX7_week_29 : decode cX7_week 29 = .ok (.aload_n 0, 1) := by decide +kernel
theorem dX7_week_30 : decode cX7_week 30 = .ok (.getfield 92, 3) := by decide +kernel
theorem dX7_week_33 : decode cX7_week 33 = .ok (.if_icmp .ge 78, 3) := by decide +kernel
theorem dX7_week_36 : decode cX7_week 36 = .ok (.aload_n 0, 1) := by decide +kernel
theorem dX7_week_37 : decode cX7_week 37 = .ok (.iload_n 2, 1) := by decide +kernel
theorem dX7_week_38 : decode cX7_week 38 = .ok (.invokevirtual 154, 3) := by decide +kernel
theorem dX7_week_41 : decode cX7_week 41 = .ok (.iconst 0, 1) := by decide +kernel
theorem dX7_week_42 : decode cX7_week 42 = .ok (.istore_n 3, 1) := by decide +kernel
theorem dX7_week_43 : decode cX7_week 43 = .ok (.iload_n 3, 1) := by decide +kernel
theorem dX7_week_44 : decode cX7_week 44 = .ok (.aload_n 0, 1) := by decide +kernel
theorem dX7_week_45 : decode cX7_week 45 = .ok (.getfield 100, 3) := by decide +kernel
theorem dX7_week_48 : decode cX7_week 48 = .ok (.if_icmp .gt 57, 3) := by decide +kernel
theorem dX7_week_51 : decode cX7_week 51 = .ok (.aload_n 0, 1) := by decide +kernel
theorem dX7_week_52 : decode cX7_week 52 = .ok (.getfield 86, 3) := by decide +kernel
theorem dX7_week_55 : decode cX7_week 55 = .ok (.iload_n 3, 1) := by decide +kernel
theorem dX7_week_56 : decode cX7_week 56 = .ok (.iaload, 1) := by decide +kernel
theorem dX7_week_57 : decode cX7_week 57 = .ok (.aload_n 0, 1) := by decide +kernel
theorem dX7_week_58 : decode cX7_week 58 = .ok (.getfield 49, 3) := by decide +kernel
theorem dX7_week_61 : decode cX7_week 61 = .ok (.sipush 301, 3) := by decide +kernel
theorem dX7_week_64 : decode cX7_week 64 = .ok (.iload_n 2, 1) := by decide +kernel
theorem dX7_week_65 : decode cX7_week 65 = .ok (.imul, 1) := by decide +kernel
theorem dX7_week_66 : decode cX7_week 66 = .ok (.iload_n 3, 1) := by decide +kernel
theorem dX7_week_67 : decode cX7_week 67 = .ok (.iadd, 1) := by decide +kernel
theorem dX7_week_68 : decode cX7_week 68 = .ok (.iaload, 1) := by decide +kernel
theorem dX7_week_69 : decode cX7_week 69 = .ok (.isub, 1) := by decide +kernel
theorem dX7_week_70 : decode cX7_week 70 = .ok (.istore 4, 2) := by decide +kernel
theorem dX7_week_72 : decode cX7_week 72 = .ok (.aload_n 0, 1) := by decide +kernel
theorem dX7_week_73 : decode cX7_week 73 = .ok (.getfield 89, 3) := by decide +kernel
theorem dX7_week_76 : decode cX7_week 76 = .ok (.sipush 301, 3) := by decide +kernel
theorem dX7_week_79 : decode cX7_week 79 = .ok (.iload_n 2, 1) := by decide +kernel
theorem dX7_week_80 : decode cX7_week 80 = .ok (.imul, 1) := by decide +kernel
theorem dX7_week_81 : decode cX7_week 81 = .ok (.iload_n 3, 1) := by decide +kernel
theorem dX7_week_82 : decode cX7_week 82 = .ok (.iadd, 1) := by decide +kernel
theorem dX7_week_83 : decode cX7_week 83 = .ok (.iload 4, 2) := by decide +kernel
theorem dX7_week_85 : decode cX7_week 85 = .ok (.iastore, 1) := by decide +kernel
theorem dX7_week_86 : decode cX7_week 86 = .ok (.iload_n 1, 1) := by decide +kernel
theorem dX7_week_87 : decode cX7_week 87 = .ok (.iload 4, 2) := by decide +kernel
theorem dX7_week_89 : decode cX7_week 89 = .ok (.ifCond .eq 7, 3) := by decide +kernel
theorem dX7_week_92 : decode cX7_week 92 = .ok (.iconst 1, 1) := by decide +kernel
theorem dX7_week_93 : decode cX7_week 93 = .ok (.goto 4, 3) := by decide +kernel
theorem dX7_week_96 : decode cX7_week 96 = .ok (.iconst 0, 1) := by decide +kernel
theorem dX7_week_97 : decode cX7_week 97 = .ok (.iadd, 1) := by decide +kernel
theorem dX7_week_98 : decode cX7_week 98 = .ok (.istore_n 1, 1) := by decide +kernel
theorem dX7_week_99 : decode cX7_week 99 = .ok (.iinc 3 1, 3) := by decide +kernel
theorem dX7_week_102 : decode cX7_week 102 = .ok (.goto (-59), 3) := by decide +kernel
theorem dX7_week_105 : decode cX7_week 105 = .ok (.iinc 2 1, 3) := by decide +kernel
theorem dX7_week_108 : decode cX7_week 108 = .ok (.goto (-80), 3) := by decide +kernel
theorem dX7_week_111 : decode cX7_week 111 = .ok (.aload_n 0, 1) := by decide +kernel
theorem dX7_week_112 : decode cX7_week 112 = .ok (.getfield 158, 3) := by decide +kernel
theorem dX7_week_115 : decode cX7_week 115 = .ok (.iload_n 1, 1) := by decide +kernel
theorem dX7_week_116 : decode cX7_week 116 = .ok (.iadd, 1) := by decide +kernel
theorem dX7_week_117 : decode cX7_week 117 = .ok (.sipush 20000, 3) := by decide +kernel
theorem dX7_week_120 : decode cX7_week 120 = .ok (.if_icmp .le 5, 3) := by decide +kernel
theorem dX7_week_123 : decode cX7_week 123 = .ok (.iconst (-1), 1) := by decide +kernel
theorem dX7_week_124 : decode cX7_week 124 = .ok (.ireturn, 1) := by decide +kernel
theorem dX7_week_125 : decode cX7_week 125 = .ok (.iconst 0, 1) := by decide +kernel
theorem dX7_week_126 : decode cX7_week 126 = .ok (.istore_n 2, 1) := by decide +kernel
theorem dX7_week_127 : decode cX7_week 127 = .ok (.iload_n 2, 1) := by decide +kernel
theorem dX7_week_128 : decode cX7_week 128 = .ok (.aload_n 0, 1) := by decide +kernel
theorem dX7_week_129 : decode cX7_week 129 = .ok (.getfield 100, 3) := by decide +kernel
theorem dX7_week_132 : decode cX7_week 132 = .ok (.if_icmp .gt 52, 3) := by decide +kernel
theorem dX7_week_135 : decode cX7_week 135 = .ok (.iconst 0, 1) := by decide +kernel
theorem dX7_week_136 : decode cX7_week 136 = .ok (.istore_n 3, 1) := by decide +kernel
theorem dX7_week_137 : decode cX7_week 137 = .ok (.iload_n 3, 1) := by decide +kernel
theorem dX7_week_138 : decode cX7_week 138 = .ok (.aload_n 0, 1) := by decide +kernel
theorem dX7_week_139 : decode cX7_week 139 = .ok (.getfield 92, 3) := by decide +kernel
theorem dX7_week_142 : decode cX7_week 142 = .ok (.if_icmp .ge 36, 3) := by decide +kernel
theorem dX7_week_145 : decode cX7_week 145 = .ok (.aload_n 0, 1) := by decide +kernel
theorem dX7_week_146 : decode cX7_week 146 = .ok (.getfield 89, 3) := by decide +kernel
theorem dX7_week_149 : decode cX7_week 149 = .ok (.sipush 301, 3) := by decide +kernel
theorem dX7_week_152 : decode cX7_week 152 = .ok (.iload_n 3, 1) := by decide +kernel
theorem dX7_week_153 : decode cX7_week 153 = .ok (.imul, 1) := by decide +kernel
theorem dX7_week_154 : decode cX7_week 154 = .ok (.iload_n 2, 1) := by decide +kernel
theorem dX7_week_155 : decode cX7_week 155 = .ok (.iadd, 1) := by decide +kernel
theorem dX7_week_156 : decode cX7_week 156 = .ok (.iaload, 1) := by decide +kernel
theorem dX7_week_157 : decode cX7_week 157 = .ok (.istore 4, 2) := by decide +kernel
theorem dX7_week_159 : decode cX7_week 159 = .ok (.iload 4, 2) := by decide +kernel
theorem dX7_week_161 : decode cX7_week 161 = .ok (.ifCond .eq 11, 3) := by decide +kernel
theorem dX7_week_164 : decode cX7_week 164 = .ok (.aload_n 0, 1) := by decide +kernel
theorem dX7_week_165 : decode cX7_week 165 = .ok (.iload_n 2, 1) := by decide +kernel
theorem dX7_week_166 : decode cX7_week 166 = .ok (.iload_n 3, 1) := by decide +kernel
theorem dX7_week_167 : decode cX7_week 167 = .ok (.iload 4, 2) := by decide +kernel
theorem dX7_week_169 : decode cX7_week 169 = .ok (.invokevirtual 161, 3) := by decide +kernel
theorem dX7_week_172 : decode cX7_week 172 = .ok (.iinc 3 1, 3) := by decide +kernel
theorem dX7_week_175 : decode cX7_week 175 = .ok (.goto (-38), 3) := by decide +kernel
theorem dX7_week_178 : decode cX7_week 178 = .ok (.iinc 2 1, 3) := by decide +kernel
theorem dX7_week_181 : decode cX7_week 181 = .ok (.goto (-54), 3) := by decide +kernel
theorem dX7_week_184 : decode cX7_week 184 = .ok (.aload_n 0, 1) := by decide +kernel
theorem dX7_week_185 : decode cX7_week 185 = .ok (.dup, 1) := by decide +kernel
theorem dX7_week_186 : decode cX7_week 186 = .ok (.getfield 100, 3) := by decide +kernel
theorem dX7_week_189 : decode cX7_week 189 = .ok (.iconst 1, 1) := by decide +kernel
theorem dX7_week_190 : decode cX7_week 190 = .ok (.iadd, 1) := by decide +kernel
theorem dX7_week_191 : decode cX7_week 191 = .ok (.putfield 100, 3) := by decide +kernel
theorem dX7_week_194 : decode cX7_week 194 = .ok (.iload_n 1, 1) := by decide +kernel
theorem dX7_week_195 : decode cX7_week 195 = .ok (.ireturn, 1) := by decide +kernel
theorem dX7_book_0 : decode cX7_book 0 = .ok (.aload_n 0, 1) := by decide +kernel
theorem dX7_book_1 : decode cX7_book 1 = .ok (.getfield 52, 3) := by decide +kernel
theorem dX7_book_4 : decode cX7_book 4 = .ok (.aload_n 0, 1) := by decide +kernel
theorem dX7_book_5 : decode cX7_book 5 = .ok (.getfield 158, 3) := by decide +kernel
theorem dX7_book_8 : decode cX7_book 8 = .ok (.aload_n 0, 1) := by decide +kernel
theorem dX7_book_9 : decode cX7_book 9 = .ok (.getfield 100, 3) := by decide +kernel
theorem dX7_book_12 : decode cX7_book 12 = .ok (.iastore, 1) := by decide +kernel
theorem dX7_book_13 : decode cX7_book 13 = .ok (.aload_n 0, 1) := by decide +kernel
theorem dX7_book_14 : decode cX7_book 14 = .ok (.getfield 55, 3) := by decide +kernel
theorem dX7_book_17 : decode cX7_book 17 = .ok (.aload_n 0, 1) := by decide +kernel
theorem dX7_book_18 : decode cX7_book 18 = .ok (.getfield 158, 3) := by decide +kernel
theorem dX7_book_21 : decode cX7_book 21 = .ok (.iload_n 1, 1) := by decide +kernel
theorem dX7_book_22 : decode cX7_book 22 = .ok (.iastore, 1) := by decide +kernel
theorem dX7_book_23 : decode cX7_book 23 = .ok (.aload_n 0, 1) := by decide +kernel
theorem dX7_book_24 : decode cX7_book 24 = .ok (.getfield 58, 3) := by decide +kernel
theorem dX7_book_27 : decode cX7_book 27 = .ok (.aload_n 0, 1) := by decide +kernel
theorem dX7_book_28 : decode cX7_book 28 = .ok (.getfield 158, 3) := by decide +kernel
theorem dX7_book_31 : decode cX7_book 31 = .ok (.iload_n 2, 1) := by decide +kernel
theorem dX7_book_32 : decode cX7_book 32 = .ok (.iastore, 1) := by decide +kernel
theorem dX7_book_33 : decode cX7_book 33 = .ok (.aload_n 0, 1) := by decide +kernel
theorem dX7_book_34 : decode cX7_book 34 = .ok (.getfield 61, 3) := by decide +kernel
theorem dX7_book_37 : decode cX7_book 37 = .ok (.aload_n 0, 1) := by decide +kernel
theorem dX7_book_38 : decode cX7_book 38 = .ok (.getfield 158, 3) := by decide +kernel
theorem dX7_book_41 : decode cX7_book 41 = .ok (.iload_n 3, 1) := by decide +kernel
theorem dX7_book_42 : decode cX7_book 42 = .ok (.iastore, 1) := by decide +kernel
theorem dX7_book_43 : decode cX7_book 43 = .ok (.aload_n 0, 1) := by decide +kernel
theorem dX7_book_44 : decode cX7_book 44 = .ok (.dup, 1) := by decide +kernel
theorem dX7_book_45 : decode cX7_book 45 = .ok (.getfield 158, 3) := by decide +kernel
theorem dX7_book_48 : decode cX7_book 48 = .ok (.iconst 1, 1) := by decide +kernel
theorem dX7_book_49 : decode cX7_book 49 = .ok (.iadd, 1) := by decide +kernel
theorem dX7_book_50 : decode cX7_book 50 = .ok (.putfield 158, 3) := by decide +kernel
theorem dX7_book_53 : decode cX7_book 53 = .ok (.aload_n 0, 1) := by decide +kernel
theorem dX7_book_54 : decode cX7_book 54 = .ok (.getfield 49, 3) := by decide +kernel
theorem dX7_book_57 : decode cX7_book 57 = .ok (.sipush 301, 3) := by decide +kernel
theorem dX7_book_60 : decode cX7_book 60 = .ok (.iload_n 2, 1) := by decide +kernel
theorem dX7_book_61 : decode cX7_book 61 = .ok (.imul, 1) := by decide +kernel
theorem dX7_book_62 : decode cX7_book 62 = .ok (.iload_n 1, 1) := by decide +kernel
theorem dX7_book_63 : decode cX7_book 63 = .ok (.iadd, 1) := by decide +kernel
theorem dX7_book_64 : decode cX7_book 64 = .ok (.dup2, 1) := by decide +kernel
theorem dX7_book_65 : decode cX7_book 65 = .ok (.iaload, 1) := by decide +kernel
theorem dX7_book_66 : decode cX7_book 66 = .ok (.iload_n 3, 1) := by decide +kernel
theorem dX7_book_67 : decode cX7_book 67 = .ok (.iadd, 1) := by decide +kernel
theorem dX7_book_68 : decode cX7_book 68 = .ok (.iastore, 1) := by decide +kernel
theorem dX7_book_69 : decode cX7_book 69 = .ok (.return_, 1) := by decide +kernel
theorem dX7_table_0 : decode cX7_table 0 = .ok (.iload_n 1, 1) := by decide +kernel
theorem dX7_table_1 : decode cX7_table 1 = .ok (.iconst 0, 1) := by decide +kernel
theorem dX7_table_2 : decode cX7_table 2 = .ok (.bipush 99, 2) := by decide +kernel
theorem dX7_table_4 : decode cX7_table 4 = .ok (.invokestatic 96, 3) := by decide +kernel
theorem dX7_table_7 : decode cX7_table 7 = .ok (.ifCond .eq 25, 3) := by decide +kernel
theorem dX7_table_10 : decode cX7_table 10 = .ok (.iload_n 2, 1) := by decide +kernel
theorem dX7_table_11 : decode cX7_table 11 = .ok (.iconst 0, 1) := by decide +kernel
theorem dX7_table_12 : decode cX7_table 12 = .ok (.sipush 1000, 3) := by decide +kernel
theorem dX7_table_15 : decode cX7_table 15 = .ok (.invokestatic 96, 3) := by decide +kernel
theorem dX7_table_18 : decode cX7_table 18 = .ok (.ifCond .eq 14, 3) := by decide +kernel
theorem dX7_table_21 : decode cX7_table 21 = .ok (.iload_n 3, 1) := by decide +kernel
theorem dX7_table_22 : decode cX7_table 22 = .ok (.iconst 0, 1) := by decide +kernel
theorem dX7_table_23 : decode cX7_table 23 = .ok (.sipush 365, 3) := by decide +kernel
theorem dX7_table_26 : decode cX7_table 26 = .ok (.invokestatic 96, 3) := by decide +kernel
theorem dX7_table_29 : decode cX7_table 29 = .ok (.ifCond .ne 5, 3) := by decide +kernel
theorem dX7_table_32 : decode cX7_table 32 = .ok (.iconst 0, 1) := by decide +kernel
theorem dX7_table_33 : decode cX7_table 33 = .ok (.ireturn, 1) := by decide +kernel
theorem dX7_table_34 : decode cX7_table 34 = .ok (.aload_n 0, 1) := by decide +kernel
theorem dX7_table_35 : decode cX7_table 35 = .ok (.getfield 64, 3) := by decide +kernel
theorem dX7_table_38 : decode cX7_table 38 = .ok (.iload_n 1, 1) := by decide +kernel
theorem dX7_table_39 : decode cX7_table 39 = .ok (.iload_n 2, 1) := by decide +kernel
theorem dX7_table_40 : decode cX7_table 40 = .ok (.iastore, 1) := by decide +kernel
theorem dX7_table_41 : decode cX7_table 41 = .ok (.aload_n 0, 1) := by decide +kernel
theorem dX7_table_42 : decode cX7_table 42 = .ok (.getfield 67, 3) := by decide +kernel
theorem dX7_table_45 : decode cX7_table 45 = .ok (.iload_n 1, 1) := by decide +kernel
theorem dX7_table_46 : decode cX7_table 46 = .ok (.iload_n 3, 1) := by decide +kernel
theorem dX7_table_47 : decode cX7_table 47 = .ok (.iastore, 1) := by decide +kernel
theorem dX7_table_48 : decode cX7_table 48 = .ok (.iconst 1, 1) := by decide +kernel
theorem dX7_table_49 : decode cX7_table 49 = .ok (.ireturn, 1) := by decide +kernel
theorem dX7_force_0 : decode cX7_force 0 = .ok (.iload_n 1, 1) := by decide +kernel
theorem dX7_force_1 : decode cX7_force 1 = .ok (.iconst 0, 1) := by decide +kernel
theorem dX7_force_2 : decode cX7_force 2 = .ok (.bipush 6, 2) := by decide +kernel
theorem dX7_force_4 : decode cX7_force 4 = .ok (.invokestatic 96, 3) := by decide +kernel
theorem dX7_force_7 : decode cX7_force 7 = .ok (.ifCond .eq 36, 3) := by decide +kernel
theorem dX7_force_10 : decode cX7_force 10 = .ok (.iload_n 2, 1) := by decide +kernel
theorem dX7_force_11 : decode cX7_force 11 = .ok (.iconst 0, 1) := by decide +kernel
theorem dX7_force_12 : decode cX7_force 12 = .ok (.sipush 1000, 3) := by decide +kernel
theorem dX7_force_15 : decode cX7_force 15 = .ok (.invokestatic 96, 3) := by decide +kernel
theorem dX7_force_18 : decode cX7_force 18 = .ok (.ifCond .eq 25, 3) := by decide +kernel
theorem dX7_force_21 : decode cX7_force 21 = .ok (.aload_n 0, 1) := by decide +kernel
theorem dX7_force_22 : decode cX7_force 22 = .ok (.iload_n 3, 1) := by decide +kernel
theorem dX7_force_23 : decode cX7_force 23 = .ok (.invokevirtual 164, 3) := by decide +kernel
theorem dX7_force_26 : decode cX7_force 26 = .ok (.ifCond .eq 17, 3) := by decide +kernel
theorem dX7_force_29 : decode cX7_force 29 = .ok (.aload_n 0, 1) := by decide +kernel
theorem dX7_force_30 : decode cX7_force 30 = .ok (.iload_n 1, 1) := by decide +kernel
theorem dX7_force_31 : decode cX7_force 31 = .ok (.iload_n 2, 1) := by decide +kernel
theorem dX7_force_32 : decode cX7_force 32 = .ok (.iload_n 3, 1) := by decide +kernel
theorem dX7_force_33 : decode cX7_force 33 = .ok (.aload_n 0, 1) := by decide +kernel
theorem dX7_force_34 : decode cX7_force 34 = .ok (.getfield 137, 3) := by decide +kernel
theorem dX7_force_37 : decode cX7_force 37 = .ok (.invokevirtual 110, 3) := by decide +kernel
theorem dX7_force_40 : decode cX7_force 40 = .ok (.goto 4, 3) := by decide +kernel
theorem dX7_force_43 : decode cX7_force 43 = .ok (.iconst (-1), 1) := by decide +kernel
theorem dX7_force_44 : decode cX7_force 44 = .ok (.ireturn, 1) := by decide +kernel
theorem dX7_grant_0 : decode cX7_grant 0 = .ok (.aload_n 0, 1) := by decide +kernel
theorem dX7_grant_1 : decode cX7_grant 1 = .ok (.iload_n 1, 1) := by decide +kernel
theorem dX7_grant_2 : decode cX7_grant 2 = .ok (.invokevirtual 132, 3) := by decide +kernel
theorem dX7_grant_5 : decode cX7_grant 5 = .ok (.ifCond .eq 19, 3) := by decide +kernel
theorem dX7_grant_8 : decode cX7_grant 8 = .ok (.aload_n 0, 1) := by decide +kernel
theorem dX7_grant_9 : decode cX7_grant 9 = .ok (.iload_n 2, 1) := by decide +kernel
theorem dX7_grant_10 : decode cX7_grant 10 = .ok (.invokevirtual 164, 3) := by decide +kernel
theorem dX7_grant_13 : decode cX7_grant 13 = .ok (.ifCond .eq 11, 3) := by decide +kernel
theorem dX7_grant_16 : decode cX7_grant 16 = .ok (.aload_n 0, 1) := by decide +kernel
theorem dX7_grant_17 : decode cX7_grant 17 = .ok (.iload_n 3, 1) := by decide +kernel
theorem dX7_grant_18 : decode cX7_grant 18 = .ok (.invokevirtual 164, 3) := by decide +kernel
theorem dX7_grant_21 : decode cX7_grant 21 = .ok (.ifCond .ne 5, 3) := by decide +kernel
theorem dX7_grant_24 : decode cX7_grant 24 = .ok (.iconst (-1), 1) := by decide +kernel
theorem dX7_grant_25 : decode cX7_grant 25 = .ok (.ireturn, 1) := by decide +kernel
theorem dX7_grant_26 : decode cX7_grant 26 = .ok (.aload_n 0, 1) := by decide +kernel
theorem dX7_grant_27 : decode cX7_grant 27 = .ok (.iload_n 3, 1) := by decide +kernel
theorem dX7_grant_28 : decode cX7_grant 28 = .ok (.aload_n 0, 1) := by decide +kernel
theorem dX7_grant_29 : decode cX7_grant 29 = .ok (.getfield 137, 3) := by decide +kernel
theorem dX7_grant_32 : decode cX7_grant 32 = .ok (.invokevirtual 140, 3) := by decide +kernel
theorem dX7_grant_35 : decode cX7_grant 35 = .ok (.aload_n 0, 1) := by decide +kernel
theorem dX7_grant_36 : decode cX7_grant 36 = .ok (.iload_n 1, 1) := by decide +kernel
theorem dX7_grant_37 : decode cX7_grant 37 = .ok (.invokevirtual 154, 3) := by decide +kernel
theorem dX7_grant_40 : decode cX7_grant 40 = .ok (.aload_n 0, 1) := by decide +kernel
theorem dX7_grant_41 : decode cX7_grant 41 = .ok (.getfield 86, 3) := by decide +kernel
theorem dX7_grant_44 : decode cX7_grant 44 = .ok (.iload_n 2, 1) := by decide +kernel
theorem dX7_grant_45 : decode cX7_grant 45 = .ok (.iaload, 1) := by decide +kernel
theorem dX7_grant_46 : decode cX7_grant 46 = .ok (.ireturn, 1) := by decide +kernel
theorem dX7_day_0 : decode cX7_day 0 = .ok (.aload_n 0, 1) := by decide +kernel
theorem dX7_day_1 : decode cX7_day 1 = .ok (.iload_n 1, 1) := by decide +kernel
theorem dX7_day_2 : decode cX7_day 2 = .ok (.invokevirtual 132, 3) := by decide +kernel
theorem dX7_day_5 : decode cX7_day 5 = .ok (.ifCond .eq 29, 3) := by decide +kernel
theorem dX7_day_8 : decode cX7_day 8 = .ok (.iload_n 2, 1) := by decide +kernel
theorem dX7_day_9 : decode cX7_day 9 = .ok (.iconst 0, 1) := by decide +kernel
theorem dX7_day_10 : decode cX7_day 10 = .ok (.bipush 7, 2) := by decide +kernel
theorem dX7_day_12 : decode cX7_day 12 = .ok (.aload_n 0, 1) := by decide +kernel
theorem dX7_day_13 : decode cX7_day 13 = .ok (.getfield 100, 3) := by decide +kernel
theorem dX7_day_16 : decode cX7_day 16 = .ok (.imul, 1) := by decide +kernel
theorem dX7_day_17 : decode cX7_day 17 = .ok (.bipush 6, 2) := by decide +kernel
theorem dX7_day_19 : decode cX7_day 19 = .ok (.iadd, 1) := by decide +kernel
theorem dX7_day_20 : decode cX7_day 20 = .ok (.invokestatic 96, 3) := by decide +kernel
theorem dX7_day_23 : decode cX7_day 23 = .ok (.ifCond .eq 11, 3) := by decide +kernel
theorem dX7_day_26 : decode cX7_day 26 = .ok (.aload_n 0, 1) := by decide +kernel
theorem dX7_day_27 : decode cX7_day 27 = .ok (.iload_n 3, 1) := by decide +kernel
theorem dX7_day_28 : decode cX7_day 28 = .ok (.invokevirtual 164, 3) := by decide +kernel
theorem dX7_day_31 : decode cX7_day 31 = .ok (.ifCond .ne 5, 3) := by decide +kernel
theorem dX7_day_34 : decode cX7_day 34 = .ok (.iconst (-1), 1) := by decide +kernel
theorem dX7_day_35 : decode cX7_day 35 = .ok (.ireturn, 1) := by decide +kernel
theorem dX7_day_36 : decode cX7_day 36 = .ok (.aload_n 0, 1) := by decide +kernel
theorem dX7_day_37 : decode cX7_day 37 = .ok (.iload_n 3, 1) := by decide +kernel
theorem dX7_day_38 : decode cX7_day 38 = .ok (.aload_n 0, 1) := by decide +kernel
theorem dX7_day_39 : decode cX7_day 39 = .ok (.getfield 137, 3) := by decide +kernel
theorem dX7_day_42 : decode cX7_day 42 = .ok (.invokevirtual 140, 3) := by decide +kernel
theorem dX7_day_45 : decode cX7_day 45 = .ok (.aload_n 0, 1) := by decide +kernel
theorem dX7_day_46 : decode cX7_day 46 = .ok (.iload_n 1, 1) := by decide +kernel
theorem dX7_day_47 : decode cX7_day 47 = .ok (.invokevirtual 154, 3) := by decide +kernel
theorem dX7_day_50 : decode cX7_day 50 = .ok (.aload_n 0, 1) := by decide +kernel
theorem dX7_day_51 : decode cX7_day 51 = .ok (.getfield 73, 3) := by decide +kernel
theorem dX7_day_54 : decode cX7_day 54 = .ok (.iload_n 2, 1) := by decide +kernel
theorem dX7_day_55 : decode cX7_day 55 = .ok (.iaload, 1) := by decide +kernel
theorem dX7_day_56 : decode cX7_day 56 = .ok (.ireturn, 1) := by decide +kernel
theorem dX7_arrears_0 : decode cX7_arrears 0 = .ok (.aload_n 0, 1) := by decide +kernel
theorem dX7_arrears_1 : decode cX7_arrears 1 = .ok (.iload_n 1, 1) := by decide +kernel
theorem dX7_arrears_2 : decode cX7_arrears 2 = .ok (.invokevirtual 132, 3) := by decide +kernel
theorem dX7_arrears_5 : decode cX7_arrears 5 = .ok (.ifCond .eq 19, 3) := by decide +kernel
theorem dX7_arrears_8 : decode cX7_arrears 8 = .ok (.aload_n 0, 1) := by decide +kernel
theorem dX7_arrears_9 : decode cX7_arrears 9 = .ok (.iload_n 2, 1) := by decide +kernel
theorem dX7_arrears_10 : decode cX7_arrears 10 = .ok (.invokevirtual 164, 3) := by decide +kernel
theorem dX7_arrears_13 : decode cX7_arrears 13 = .ok (.ifCond .eq 11, 3) := by decide +kernel
theorem dX7_arrears_16 : decode cX7_arrears 16 = .ok (.aload_n 0, 1) := by decide +kernel
theorem dX7_arrears_17 : decode cX7_arrears 17 = .ok (.iload_n 3, 1) := by decide +kernel
theorem dX7_arrears_18 : decode cX7_arrears 18 = .ok (.invokevirtual 164, 3) := by decide +kernel
theorem dX7_arrears_21 : decode cX7_arrears 21 = .ok (.ifCond .ne 6, 3) := by decide +kernel
theorem dX7_arrears_24 : decode cX7_arrears 24 = .ok (.ldc 136, 2) := by decide +kernel
theorem dX7_arrears_26 : decode cX7_arrears 26 = .ok (.ireturn, 1) := by decide +kernel
theorem dX7_arrears_27 : decode cX7_arrears 27 = .ok (.aload_n 0, 1) := by decide +kernel
theorem dX7_arrears_28 : decode cX7_arrears 28 = .ok (.iload_n 3, 1) := by decide +kernel
theorem dX7_arrears_29 : decode cX7_arrears 29 = .ok (.aload_n 0, 1) := by decide +kernel
theorem dX7_arrears_30 : decode cX7_arrears 30 = .ok (.getfield 137, 3) := by decide +kernel
theorem dX7_arrears_33 : decode cX7_arrears 33 = .ok (.invokevirtual 140, 3) := by decide +kernel
theorem dX7_arrears_36 : decode cX7_arrears 36 = .ok (.aload_n 0, 1) := by decide +kernel
theorem dX7_arrears_37 : decode cX7_arrears 37 = .ok (.iload_n 1, 1) := by decide +kernel
theorem dX7_arrears_38 : decode cX7_arrears 38 = .ok (.iload_n 2, 1) := by decide +kernel
theorem dX7_arrears_39 : decode cX7_arrears 39 = .ok (.invokevirtual 118, 3) := by decide +kernel
theorem dX7_arrears_42 : decode cX7_arrears 42 = .ok (.ireturn, 1) := by decide +kernel
theorem dX7_out_0 : decode cX7_out 0 = .ok (.aload_n 0, 1) := by decide +kernel
theorem dX7_out_1 : decode cX7_out 1 = .ok (.iload_n 1, 1) := by decide +kernel
theorem dX7_out_2 : decode cX7_out 2 = .ok (.invokevirtual 132, 3) := by decide +kernel
theorem dX7_out_5 : decode cX7_out 5 = .ok (.ifCond .eq 19, 3) := by decide +kernel
theorem dX7_out_8 : decode cX7_out 8 = .ok (.aload_n 0, 1) := by decide +kernel
theorem dX7_out_9 : decode cX7_out 9 = .ok (.iload_n 2, 1) := by decide +kernel
theorem dX7_out_10 : decode cX7_out 10 = .ok (.invokevirtual 164, 3) := by decide +kernel
theorem dX7_out_13 : decode cX7_out 13 = .ok (.ifCond .eq 11, 3) := by decide +kernel
theorem dX7_out_16 : decode cX7_out 16 = .ok (.aload_n 0, 1) := by decide +kernel
theorem dX7_out_17 : decode cX7_out 17 = .ok (.iload_n 3, 1) := by decide +kernel
theorem dX7_out_18 : decode cX7_out 18 = .ok (.invokevirtual 164, 3) := by decide +kernel
theorem dX7_out_21 : decode cX7_out 21 = .ok (.ifCond .ne 5, 3) := by decide +kernel
theorem dX7_out_24 : decode cX7_out 24 = .ok (.iconst 0, 1) := by decide +kernel
theorem dX7_out_25 : decode cX7_out 25 = .ok (.ireturn, 1) := by decide +kernel
theorem dX7_out_26 : decode cX7_out 26 = .ok (.aload_n 0, 1) := by decide +kernel
theorem dX7_out_27 : decode cX7_out 27 = .ok (.iload_n 3, 1) := by decide +kernel
theorem dX7_out_28 : decode cX7_out 28 = .ok (.aload_n 0, 1) := by decide +kernel
theorem dX7_out_29 : decode cX7_out 29 = .ok (.getfield 137, 3) := by decide +kernel
theorem dX7_out_32 : decode cX7_out 32 = .ok (.invokevirtual 140, 3) := by decide +kernel
theorem dX7_out_35 : decode cX7_out 35 = .ok (.aload_n 0, 1) := by decide +kernel
theorem dX7_out_36 : decode cX7_out 36 = .ok (.iload_n 1, 1) := by decide +kernel
theorem dX7_out_37 : decode cX7_out 37 = .ok (.iload_n 2, 1) := by decide +kernel
theorem dX7_out_38 : decode cX7_out 38 = .ok (.invokevirtual 124, 3) := by decide +kernel
theorem dX7_out_41 : decode cX7_out 41 = .ok (.ireturn, 1) := by decide +kernel
theorem dX7_what_0 : decode cX7_what 0 = .ok (.aload_n 0, 1) := by decide +kernel
theorem dX7_what_1 : decode cX7_what 1 = .ok (.iload_n 1, 1) := by decide +kernel
theorem dX7_what_2 : decode cX7_what 2 = .ok (.invokevirtual 132, 3) := by decide +kernel
theorem dX7_what_5 : decode cX7_what 5 = .ok (.ifCond .eq 22, 3) := by decide +kernel
theorem dX7_what_8 : decode cX7_what 8 = .ok (.aload_n 0, 1) := by decide +kernel
theorem dX7_what_9 : decode cX7_what 9 = .ok (.iload_n 2, 1) := by decide +kernel
theorem dX7_what_10 : decode cX7_what 10 = .ok (.invokevirtual 164, 3) := by decide +kernel
theorem dX7_what_13 : decode cX7_what 13 = .ok (.ifCond .eq 14, 3) := by decide +kernel
theorem dX7_what_16 : decode cX7_what 16 = .ok (.iload_n 3, 1) := by decide +kernel
theorem dX7_what_17 : decode cX7_what 17 = .ok (.iload 4, 2) := by decide +kernel
theorem dX7_what_19 : decode cX7_what 19 = .ok (.iload 5, 2) := by decide +kernel
theorem dX7_what_21 : decode cX7_what 21 = .ok (.invokestatic 147, 3) := by decide +kernel
theorem dX7_what_24 : decode cX7_what 24 = .ok (.ifCond .ne 5, 3) := by decide +kernel
theorem dX7_what_27 : decode cX7_what 27 = .ok (.iconst (-1), 1) := by decide +kernel
theorem dX7_what_28 : decode cX7_what 28 = .ok (.ireturn, 1) := by decide +kernel
theorem dX7_what_29 : decode cX7_what 29 = .ok (.aload_n 0, 1) := by decide +kernel
theorem dX7_what_30 : decode cX7_what 30 = .ok (.iload_n 3, 1) := by decide +kernel
theorem dX7_what_31 : decode cX7_what 31 = .ok (.iload 4, 2) := by decide +kernel
theorem dX7_what_33 : decode cX7_what 33 = .ok (.iload 5, 2) := by decide +kernel
theorem dX7_what_35 : decode cX7_what 35 = .ok (.invokevirtual 150, 3) := by decide +kernel
theorem dX7_what_38 : decode cX7_what 38 = .ok (.aload_n 0, 1) := by decide +kernel
theorem dX7_what_39 : decode cX7_what 39 = .ok (.aload_n 0, 1) := by decide +kernel
theorem dX7_what_40 : decode cX7_what 40 = .ok (.getfield 100, 3) := by decide +kernel
theorem dX7_what_43 : decode cX7_what 43 = .ok (.aload_n 0, 1) := by decide +kernel
theorem dX7_what_44 : decode cX7_what 44 = .ok (.getfield 137, 3) := by decide +kernel
theorem dX7_what_47 : decode cX7_what 47 = .ok (.iconst 1, 1) := by decide +kernel
theorem dX7_what_48 : decode cX7_what 48 = .ok (.iadd, 1) := by decide +kernel
theorem dX7_what_49 : decode cX7_what 49 = .ok (.invokevirtual 140, 3) := by decide +kernel
theorem dX7_what_52 : decode cX7_what 52 = .ok (.aload_n 0, 1) := by decide +kernel
theorem dX7_what_53 : decode cX7_what 53 = .ok (.iload_n 1, 1) := by decide +kernel
theorem dX7_what_54 : decode cX7_what 54 = .ok (.invokevirtual 154, 3) := by decide +kernel
theorem dX7_what_57 : decode cX7_what 57 = .ok (.aload_n 0, 1) := by decide +kernel
theorem dX7_what_58 : decode cX7_what 58 = .ok (.getfield 86, 3) := by decide +kernel
theorem dX7_what_61 : decode cX7_what 61 = .ok (.iload_n 2, 1) := by decide +kernel
theorem dX7_what_62 : decode cX7_what 62 = .ok (.iaload, 1) := by decide +kernel
theorem dX7_what_63 : decode cX7_what 63 = .ok (.ireturn, 1) := by decide +kernel
theorem dX7_booked_0 : decode cX7_booked 0 = .ok (.aload_n 0, 1) := by decide +kernel
theorem dX7_booked_1 : decode cX7_booked 1 = .ok (.iload_n 1, 1) := by decide +kernel
theorem dX7_booked_2 : decode cX7_booked 2 = .ok (.invokevirtual 132, 3) := by decide +kernel
theorem dX7_booked_5 : decode cX7_booked 5 = .ok (.ifCond .eq 29, 3) := by decide +kernel
theorem dX7_booked_8 : decode cX7_booked 8 = .ok (.iload_n 2, 1) := by decide +kernel
theorem dX7_booked_9 : decode cX7_booked 9 = .ok (.iconst 0, 1) := by decide +kernel
theorem dX7_booked_10 : decode cX7_booked 10 = .ok (.sipush 300, 3) := by decide +kernel
theorem dX7_booked_13 : decode cX7_booked 13 = .ok (.invokestatic 96, 3) := by decide +kernel
theorem dX7_booked_16 : decode cX7_booked 16 = .ok (.ifCond .eq 18, 3) := by decide +kernel
theorem dX7_booked_19 : decode cX7_booked 19 = .ok (.aload_n 0, 1) := by decide +kernel
theorem dX7_booked_20 : decode cX7_booked 20 = .ok (.getfield 49, 3) := by decide +kernel
theorem dX7_booked_23 : decode cX7_booked 23 = .ok (.sipush 301, 3) := by decide +kernel
theorem dX7_booked_26 : decode cX7_booked 26 = .ok (.iload_n 1, 1) := by decide +kernel
theorem dX7_booked_27 : decode cX7_booked 27 = .ok (.imul, 1) := by decide +kernel
theorem dX7_booked_28 : decode cX7_booked 28 = .ok (.iload_n 2, 1) := by decide +kernel
theorem dX7_booked_29 : decode cX7_booked 29 = .ok (.iadd, 1) := by decide +kernel
theorem dX7_booked_30 : decode cX7_booked 30 = .ok (.iaload, 1) := by decide +kernel
theorem dX7_booked_31 : decode cX7_booked 31 = .ok (.goto 4, 3) := by decide +kernel
theorem dX7_booked_34 : decode cX7_booked 34 = .ok (.iconst 0, 1) := by decide +kernel
theorem dX7_booked_35 : decode cX7_booked 35 = .ok (.ireturn, 1) := by decide +kernel
theorem dX7_entry_0 : decode cX7_entry 0 = .ok (.iload_n 1, 1) := by decide +kernel
theorem dX7_entry_1 : decode cX7_entry 1 = .ok (.iconst 0, 1) := by decide +kernel
theorem dX7_entry_2 : decode cX7_entry 2 = .ok (.aload_n 0, 1) := by decide +kernel
theorem dX7_entry_3 : decode cX7_entry 3 = .ok (.getfield 158, 3) := by decide +kernel
theorem dX7_entry_6 : decode cX7_entry 6 = .ok (.iconst 1, 1) := by decide +kernel
theorem dX7_entry_7 : decode cX7_entry 7 = .ok (.isub, 1) := by decide +kernel
theorem dX7_entry_8 : decode cX7_entry 8 = .ok (.invokestatic 96, 3) := by decide +kernel
theorem dX7_entry_11 : decode cX7_entry 11 = .ok (.ifCond .ne 6, 3) := by decide +kernel
theorem dX7_entry_14 : decode cX7_entry 14 = .ok (.ldc 136, 2) := by decide +kernel
theorem dX7_entry_16 : decode cX7_entry 16 = .ok (.ireturn, 1) := by decide +kernel
theorem dX7_entry_17 : decode cX7_entry 17 = .ok (.iload_n 2, 1) := by decide +kernel
theorem dX7_entry_18 : decode cX7_entry 18 = .ok (.tableswitch 58 0 3 #[30, 37, 44, 51], 30) := by decide +kernel
theorem dX7_entry_48 : decode cX7_entry 48 = .ok (.aload_n 0, 1) := by decide +kernel
theorem dX7_entry_49 : decode cX7_entry 49 = .ok (.getfield 52, 3) := by decide +kernel
theorem dX7_entry_52 : decode cX7_entry 52 = .ok (.iload_n 1, 1) := by decide +kernel
theorem dX7_entry_53 : decode cX7_entry 53 = .ok (.iaload, 1) := by decide +kernel
theorem dX7_entry_54 : decode cX7_entry 54 = .ok (.ireturn, 1) := by decide +kernel
theorem dX7_entry_55 : decode cX7_entry 55 = .ok (.aload_n 0, 1) := by decide +kernel
theorem dX7_entry_56 : decode cX7_entry 56 = .ok (.getfield 55, 3) := by decide +kernel
theorem dX7_entry_59 : decode cX7_entry 59 = .ok (.iload_n 1, 1) := by decide +kernel
theorem dX7_entry_60 : decode cX7_entry 60 = .ok (.iaload, 1) := by decide +kernel
theorem dX7_entry_61 : decode cX7_entry 61 = .ok (.ireturn, 1) := by decide +kernel
theorem dX7_entry_62 : decode cX7_entry 62 = .ok (.aload_n 0, 1) := by decide +kernel
theorem dX7_entry_63 : decode cX7_entry 63 = .ok (.getfield 58, 3) := by decide +kernel
theorem dX7_entry_66 : decode cX7_entry 66 = .ok (.iload_n 1, 1) := by decide +kernel
theorem dX7_entry_67 : decode cX7_entry 67 = .ok (.iaload, 1) := by decide +kernel
theorem dX7_entry_68 : decode cX7_entry 68 = .ok (.ireturn, 1) := by decide +kernel
theorem dX7_entry_69 : decode cX7_entry 69 = .ok (.aload_n 0, 1) := by decide +kernel
theorem dX7_entry_70 : decode cX7_entry 70 = .ok (.getfield 61, 3) := by decide +kernel
theorem dX7_entry_73 : decode cX7_entry 73 = .ok (.iload_n 1, 1) := by decide +kernel
theorem dX7_entry_74 : decode cX7_entry 74 = .ok (.iaload, 1) := by decide +kernel
theorem dX7_entry_75 : decode cX7_entry 75 = .ok (.ireturn, 1) := by decide +kernel
theorem dX7_entry_76 : decode cX7_entry 76 = .ok (.ldc 136, 2) := by decide +kernel
theorem dX7_entry_78 : decode cX7_entry 78 = .ok (.ireturn, 1) := by decide +kernel
theorem dX7_livingAt_0 : decode cX7_livingAt 0 = .ok (.iload_n 1, 1) := by decide +kernel
theorem dX7_livingAt_1 : decode cX7_livingAt 1 = .ok (.bipush 100, 2) := by decide +kernel
theorem dX7_livingAt_3 : decode cX7_livingAt 3 = .ok (.if_icmp .ge 12, 3) := by decide +kernel
theorem dX7_livingAt_6 : decode cX7_livingAt 6 = .ok (.aload_n 0, 1) := by decide +kernel
theorem dX7_livingAt_7 : decode cX7_livingAt 7 = .ok (.getfield 64, 3) := by decide +kernel
theorem dX7_livingAt_10 : decode cX7_livingAt 10 = .ok (.iload_n 1, 1) := by decide +kernel
theorem dX7_livingAt_11 : decode cX7_livingAt 11 = .ok (.iaload, 1) := by decide +kernel
theorem dX7_livingAt_12 : decode cX7_livingAt 12 = .ok (.goto 4, 3) := by decide +kernel
theorem dX7_livingAt_15 : decode cX7_livingAt 15 = .ok (.iconst 0, 1) := by decide +kernel
theorem dX7_livingAt_16 : decode cX7_livingAt 16 = .ok (.ireturn, 1) := by decide +kernel
theorem dX7_sickAt_0 : decode cX7_sickAt 0 = .ok (.iload_n 1, 1) := by decide +kernel
theorem dX7_sickAt_1 : decode cX7_sickAt 1 = .ok (.bipush 100, 2) := by decide +kernel
theorem dX7_sickAt_3 : decode cX7_sickAt 3 = .ok (.if_icmp .ge 12, 3) := by decide +kernel
theorem dX7_sickAt_6 : decode cX7_sickAt 6 = .ok (.aload_n 0, 1) := by decide +kernel
theorem dX7_sickAt_7 : decode cX7_sickAt 7 = .ok (.getfield 67, 3) := by decide +kernel
theorem dX7_sickAt_10 : decode cX7_sickAt 10 = .ok (.iload_n 1, 1) := by decide +kernel
theorem dX7_sickAt_11 : decode cX7_sickAt 11 = .ok (.iaload, 1) := by decide +kernel
theorem dX7_sickAt_12 : decode cX7_sickAt 12 = .ok (.goto 4, 3) := by decide +kernel
theorem dX7_sickAt_15 : decode cX7_sickAt 15 = .ok (.iconst 0, 1) := by decide +kernel
theorem dX7_sickAt_16 : decode cX7_sickAt 16 = .ok (.ireturn, 1) := by decide +kernel
theorem dX7_worth_0 : decode cX7_worth 0 = .ok (.aload_n 0, 1) := by decide +kernel
theorem dX7_worth_1 : decode cX7_worth 1 = .ok (.iload_n 1, 1) := by decide +kernel
theorem dX7_worth_2 : decode cX7_worth 2 = .ok (.invokevirtual 132, 3) := by decide +kernel
theorem dX7_worth_5 : decode cX7_worth 5 = .ok (.ifCond .eq 22, 3) := by decide +kernel
theorem dX7_worth_8 : decode cX7_worth 8 = .ok (.iload_n 2, 1) := by decide +kernel
theorem dX7_worth_9 : decode cX7_worth 9 = .ok (.iconst 1, 1) := by decide +kernel
theorem dX7_worth_10 : decode cX7_worth 10 = .ok (.bipush 50, 2) := by decide +kernel
theorem dX7_worth_12 : decode cX7_worth 12 = .ok (.invokestatic 96, 3) := by decide +kernel
theorem dX7_worth_15 : decode cX7_worth 15 = .ok (.ifCond .eq 12, 3) := by decide +kernel
theorem dX7_worth_18 : decode cX7_worth 18 = .ok (.iload_n 3, 1) := by decide +kernel
theorem dX7_worth_19 : decode cX7_worth 19 = .ok (.iconst 0, 1) := by decide +kernel
theorem dX7_worth_20 : decode cX7_worth 20 = .ok (.iconst 1, 1) := by decide +kernel
theorem dX7_worth_21 : decode cX7_worth 21 = .ok (.invokestatic 96, 3) := by decide +kernel
theorem dX7_worth_24 : decode cX7_worth 24 = .ok (.ifCond .ne 7, 3) := by decide +kernel
theorem dX7_worth_27 : decode cX7_worth 27 = .ok (.ldc2_w 167, 3) := by decide +kernel
theorem dX7_worth_30 : decode cX7_worth 30 = .ok (.lreturn, 1) := by decide +kernel
theorem dX7_worth_31 : decode cX7_worth 31 = .ok (.aload_n 0, 1) := by decide +kernel
theorem dX7_worth_32 : decode cX7_worth 32 = .ok (.getfield 9, 3) := by decide +kernel
theorem dX7_worth_35 : decode cX7_worth 35 = .ok (.iload_n 1, 1) := by decide +kernel
theorem dX7_worth_36 : decode cX7_worth 36 = .ok (.iaload, 1) := by decide +kernel
theorem dX7_worth_37 : decode cX7_worth 37 = .ok (.aload_n 0, 1) := by decide +kernel
theorem dX7_worth_38 : decode cX7_worth 38 = .ok (.getfield 100, 3) := by decide +kernel
theorem dX7_worth_41 : decode cX7_worth 41 = .ok (.aload_n 0, 1) := by decide +kernel
theorem dX7_worth_42 : decode cX7_worth 42 = .ok (.getfield 16, 3) := by decide +kernel
theorem dX7_worth_45 : decode cX7_worth 45 = .ok (.iload_n 1, 1) := by decide +kernel
theorem dX7_worth_46 : decode cX7_worth 46 = .ok (.iaload, 1) := by decide +kernel
theorem dX7_worth_47 : decode cX7_worth 47 = .ok (.isub, 1) := by decide +kernel
theorem dX7_worth_48 : decode cX7_worth 48 = .ok (.bipush 52, 2) := by decide +kernel
theorem dX7_worth_50 : decode cX7_worth 50 = .ok (.idiv, 1) := by decide +kernel
theorem dX7_worth_51 : decode cX7_worth 51 = .ok (.iadd, 1) := by decide +kernel
theorem dX7_worth_52 : decode cX7_worth 52 = .ok (.istore 4, 2) := by decide +kernel
theorem dX7_worth_54 : decode cX7_worth 54 = .ok (.aload_n 0, 1) := by decide +kernel
theorem dX7_worth_55 : decode cX7_worth 55 = .ok (.iload 4, 2) := by decide +kernel
theorem dX7_worth_57 : decode cX7_worth 57 = .ok (.invokevirtual 169, 3) := by decide +kernel
theorem dX7_worth_60 : decode cX7_worth 60 = .ok (.i2l, 1) := by decide +kernel
theorem dX7_worth_61 : decode cX7_worth 61 = .ok (.lstore 5, 2) := by decide +kernel
theorem dX7_worth_63 : decode cX7_worth 63 = .ok (.lload 5, 2) := by decide +kernel
theorem dX7_worth_65 : decode cX7_worth 65 = .ok (.lconst 0, 1) := by decide +kernel
theorem dX7_worth_66 : decode cX7_worth 66 = .ok (.lcmp, 1) := by decide +kernel
theorem dX7_worth_67 : decode cX7_worth 67 = .ok (.ifCond .ne 7, 3) := by decide +kernel
theorem dX7_worth_70 : decode cX7_worth 70 = .ok (.ldc2_w 167, 3) := by decide +kernel
theorem dX7_worth_73 : decode cX7_worth 73 = .ok (.lreturn, 1) := by decide +kernel
theorem dX7_worth_74 : decode cX7_worth 74 = .ok (.aload_n 0, 1) := by decide +kernel
theorem dX7_worth_75 : decode cX7_worth 75 = .ok (.iconst 2, 1) := by decide +kernel
theorem dX7_worth_76 : decode cX7_worth 76 = .ok (.aload_n 0, 1) := by decide +kernel
theorem dX7_worth_77 : decode cX7_worth 77 = .ok (.getfield 100, 3) := by decide +kernel
theorem dX7_worth_80 : decode cX7_worth 80 = .ok (.aload_n 0, 1) := by decide +kernel
theorem dX7_worth_81 : decode cX7_worth 81 = .ok (.getfield 100, 3) := by decide +kernel
theorem dX7_worth_84 : decode cX7_worth 84 = .ok (.aload_n 0, 1) := by decide +kernel
theorem dX7_worth_85 : decode cX7_worth 85 = .ok (.getfield 137, 3) := by decide +kernel
theorem dX7_worth_88 : decode cX7_worth 88 = .ok (.invokevirtual 110, 3) := by decide +kernel
theorem dX7_worth_91 : decode cX7_worth 91 = .ok (.i2l, 1) := by decide +kernel
theorem dX7_worth_92 : decode cX7_worth 92 = .ok (.lstore 7, 2) := by decide +kernel
theorem dX7_worth_94 : decode cX7_worth 94 = .ok (.aload_n 0, 1) := by decide +kernel
theorem dX7_worth_95 : decode cX7_worth 95 = .ok (.iconst 0, 1) := by decide +kernel
theorem dX7_worth_96 : decode cX7_worth 96 = .ok (.aload_n 0, 1) := by decide +kernel
theorem dX7_worth_97 : decode cX7_worth 97 = .ok (.getfield 100, 3) := by decide +kernel
theorem dX7_worth_100 : decode cX7_worth 100 = .ok (.aload_n 0, 1) := by decide +kernel
theorem dX7_worth_101 : decode cX7_worth 101 = .ok (.getfield 100, 3) := by decide +kernel
theorem dX7_worth_104 : decode cX7_worth 104 = .ok (.aload_n 0, 1) := by decide +kernel
theorem dX7_worth_105 : decode cX7_worth 105 = .ok (.getfield 137, 3) := by decide +kernel
theorem dX7_worth_108 : decode cX7_worth 108 = .ok (.invokevirtual 110, 3) := by decide +kernel
theorem dX7_worth_111 : decode cX7_worth 111 = .ok (.i2l, 1) := by decide +kernel
theorem dX7_worth_112 : decode cX7_worth 112 = .ok (.lstore 9, 2) := by decide +kernel
theorem dX7_worth_114 : decode cX7_worth 114 = .ok (.lconst 0, 1) := by decide +kernel
theorem dX7_worth_115 : decode cX7_worth 115 = .ok (.lstore 11, 2) := by decide +kernel
theorem dX7_worth_117 : decode cX7_worth 117 = .ok (.iconst 0, 1) := by decide +kernel
theorem dX7_worth_118 : decode cX7_worth 118 = .ok (.istore 13, 2) := by decide +kernel
theorem dX7_worth_120 : decode cX7_worth 120 = .ok (.iload 13, 2) := by decide +kernel
theorem dX7_worth_122 : decode cX7_worth 122 = .ok (.iload_n 2, 1) := by decide +kernel
theorem dX7_worth_123 : decode cX7_worth 123 = .ok (.if_icmp .ge 45, 3) := by decide +kernel
theorem dX7_worth_126 : decode cX7_worth 126 = .ok (.lload 11, 2) := by decide +kernel
theorem dX7_worth_128 : decode cX7_worth 128 = .ok (.aload_n 0, 1) := by decide +kernel
theorem dX7_worth_129 : decode cX7_worth 129 = .ok (.iload 4, 2) := by decide +kernel
theorem dX7_worth_131 : decode cX7_worth 131 = .ok (.iload 13, 2) := by decide +kernel
theorem dX7_worth_133 : decode cX7_worth 133 = .ok (.iadd, 1) := by decide +kernel
theorem dX7_worth_134 : decode cX7_worth 134 = .ok (.invokevirtual 169, 3) := by decide +kernel
theorem dX7_worth_137 : decode cX7_worth 137 = .ok (.i2l, 1) := by decide +kernel
theorem dX7_worth_138 : decode cX7_worth 138 = .ok (.aload_n 0, 1) := by decide +kernel
theorem dX7_worth_139 : decode cX7_worth 139 = .ok (.iload 4, 2) := by decide +kernel
theorem dX7_worth_141 : decode cX7_worth 141 = .ok (.iload 13, 2) := by decide +kernel
theorem dX7_worth_143 : decode cX7_worth 143 = .ok (.iadd, 1) := by decide +kernel
theorem dX7_worth_144 : decode cX7_worth 144 = .ok (.invokevirtual 172, 3) := by decide +kernel
theorem dX7_worth_147 : decode cX7_worth 147 = .ok (.i2l, 1) := by decide +kernel
theorem dX7_worth_148 : decode cX7_worth 148 = .ok (.lload 7, 2) := by decide +kernel
theorem dX7_worth_150 : decode cX7_worth 150 = .ok (.lmul, 1) := by decide +kernel
theorem dX7_worth_151 : decode cX7_worth 151 = .ok (.ldc2_w 175, 3) := by decide +kernel
theorem dX7_worth_154 : decode cX7_worth 154 = .ok (.lload 9, 2) := by decide +kernel
theorem dX7_worth_156 : decode cX7_worth 156 = .ok (.lmul, 1) := by decide +kernel
theorem dX7_worth_157 : decode cX7_worth 157 = .ok (.lsub, 1) := by decide +kernel
theorem dX7_worth_158 : decode cX7_worth 158 = .ok (.lmul, 1) := by decide +kernel
theorem dX7_worth_159 : decode cX7_worth 159 = .ok (.ladd, 1) := by decide +kernel
theorem dX7_worth_160 : decode cX7_worth 160 = .ok (.lstore 11, 2) := by decide +kernel
theorem dX7_worth_162 : decode cX7_worth 162 = .ok (.iinc 13 1, 3) := by decide +kernel
theorem dX7_worth_165 : decode cX7_worth 165 = .ok (.goto (-45), 3) := by decide +kernel
theorem dX7_worth_168 : decode cX7_worth 168 = .ok (.lload 11, 2) := by decide +kernel
theorem dX7_worth_170 : decode cX7_worth 170 = .ok (.lconst 0, 1) := by decide +kernel
theorem dX7_worth_171 : decode cX7_worth 171 = .ok (.lcmp, 1) := by decide +kernel
theorem dX7_worth_172 : decode cX7_worth 172 = .ok (.ifCond .ge 9, 3) := by decide +kernel
theorem dX7_worth_175 : decode cX7_worth 175 = .ok (.lload 11, 2) := by decide +kernel
theorem dX7_worth_177 : decode cX7_worth 177 = .ok (.lneg, 1) := by decide +kernel
theorem dX7_worth_178 : decode cX7_worth 178 = .ok (.goto 5, 3) := by decide +kernel
theorem dX7_worth_181 : decode cX7_worth 181 = .ok (.lload 11, 2) := by decide +kernel
theorem dX7_worth_183 : decode cX7_worth 183 = .ok (.lstore 13, 2) := by decide +kernel
theorem dX7_worth_185 : decode cX7_worth 185 = .ok (.lload 5, 2) := by decide +kernel
theorem dX7_worth_187 : decode cX7_worth 187 = .ok (.lstore 15, 2) := by decide +kernel
theorem dX7_worth_189 : decode cX7_worth 189 = .ok (.lload 15, 2) := by decide +kernel
theorem dX7_worth_191 : decode cX7_worth 191 = .ok (.lconst 0, 1) := by decide +kernel
theorem dX7_worth_192 : decode cX7_worth 192 = .ok (.lcmp, 1) := by decide +kernel
theorem dX7_worth_193 : decode cX7_worth 193 = .ok (.ifCond .eq 21, 3) := by decide +kernel
theorem dX7_worth_196 : decode cX7_worth 196 = .ok (.lload 13, 2) := by decide +kernel
theorem dX7_worth_198 : decode cX7_worth 198 = .ok (.lload 15, 2) := by decide +kernel
theorem dX7_worth_200 : decode cX7_worth 200 = .ok (.lrem, 1) := by decide +kernel
theorem dX7_worth_201 : decode cX7_worth 201 = .ok (.lstore 17, 2) := by decide +kernel
theorem dX7_worth_203 : decode cX7_worth 203 = .ok (.lload 15, 2) := by decide +kernel
theorem dX7_worth_205 : decode cX7_worth 205 = .ok (.lstore 13, 2) := by decide +kernel
theorem dX7_worth_207 : decode cX7_worth 207 = .ok (.lload 17, 2) := by decide +kernel
theorem dX7_worth_209 : decode cX7_worth 209 = .ok (.lstore 15, 2) := by decide +kernel
theorem dX7_worth_211 : decode cX7_worth 211 = .ok (.goto (-22), 3) := by decide +kernel
theorem dX7_worth_214 : decode cX7_worth 214 = .ok (.iload_n 3, 1) := by decide +kernel
theorem dX7_worth_215 : decode cX7_worth 215 = .ok (.ifCond .ne 11, 3) := by decide +kernel
theorem dX7_worth_218 : decode cX7_worth 218 = .ok (.lload 11, 2) := by decide +kernel
theorem dX7_worth_220 : decode cX7_worth 220 = .ok (.lload 13, 2) := by decide +kernel
theorem dX7_worth_222 : decode cX7_worth 222 = .ok (.ldiv, 1) := by decide +kernel
theorem dX7_worth_223 : decode cX7_worth 223 = .ok (.goto 8, 3) := by decide +kernel
theorem dX7_worth_226 : decode cX7_worth 226 = .ok (.lload 5, 2) := by decide +kernel
theorem dX7_worth_228 : decode cX7_worth 228 = .ok (.lload 13, 2) := by decide +kernel
theorem dX7_worth_230 : decode cX7_worth 230 = .ok (.ldiv, 1) := by decide +kernel
theorem dX7_worth_231 : decode cX7_worth 231 = .ok (.lreturn, 1) := by decide +kernel
theorem dX7_paidBy_0 : decode cX7_paidBy 0 = .ok (.iconst 0, 1) := by decide +kernel
theorem dX7_paidBy_1 : decode cX7_paidBy 1 = .ok (.istore_n 2, 1) := by decide +kernel
theorem dX7_paidBy_2 : decode cX7_paidBy 2 = .ok (.iconst 0, 1) := by decide +kernel
theorem dX7_paidBy_3 : decode cX7_paidBy 3 = .ok (.istore_n 3, 1) := by decide +kernel
theorem dX7_paidBy_4 : decode cX7_paidBy 4 = .ok (.iload_n 3, 1) := by decide +kernel
theorem dX7_paidBy_5 : decode cX7_paidBy 5 = .ok (.sipush 301, 3) := by decide +kernel
theorem dX7_paidBy_8 : decode cX7_paidBy 8 = .ok (.if_icmp .ge 24, 3) := by decide +kernel
theorem dX7_paidBy_11 : decode cX7_paidBy 11 = .ok (.iload_n 2, 1) := by decide +kernel
theorem dX7_paidBy_12 : decode cX7_paidBy 12 = .ok (.aload_n 0, 1) := by decide +kernel
theorem dX7_paidBy_13 : decode cX7_paidBy 13 = .ok (.getfield 19, 3) := by decide +kernel
theorem dX7_paidBy_16 : decode cX7_paidBy 16 = .ok (.sipush 301, 3) := by decide +kernel
theorem dX7_paidBy_19 : decode cX7_paidBy 19 = .ok (.iload_n 1, 1) := by decide +kernel
theorem dX7_paidBy_20 : decode cX7_paidBy 20 = .ok (.imul, 1) := by decide +kernel
theorem dX7_paidBy_21 : decode cX7_paidBy 21 = .ok (.iload_n 3, 1) := by decide +kernel
theorem dX7_paidBy_22 : decode cX7_paidBy 22 = .ok (.iadd, 1) := by decide +kernel
theorem dX7_paidBy_23 : decode cX7_paidBy 23 = .ok (.iaload, 1) := by decide +kernel
theorem dX7_paidBy_24 : decode cX7_paidBy 24 = .ok (.iadd, 1) := by decide +kernel
theorem dX7_paidBy_25 : decode cX7_paidBy 25 = .ok (.istore_n 2, 1) := by decide +kernel
theorem dX7_paidBy_26 : decode cX7_paidBy 26 = .ok (.iinc 3 1, 3) := by decide +kernel
theorem dX7_paidBy_29 : decode cX7_paidBy 29 = .ok (.goto (-25), 3) := by decide +kernel
theorem dX7_paidBy_32 : decode cX7_paidBy 32 = .ok (.iload_n 2, 1) := by decide +kernel
theorem dX7_paidBy_33 : decode cX7_paidBy 33 = .ok (.ireturn, 1) := by decide +kernel
theorem dX7_bookedFor_0 : decode cX7_bookedFor 0 = .ok (.iconst 0, 1) := by decide +kernel
theorem dX7_bookedFor_1 : decode cX7_bookedFor 1 = .ok (.istore_n 2, 1) := by decide +kernel
theorem dX7_bookedFor_2 : decode cX7_bookedFor 2 = .ok (.iconst 0, 1) := by decide +kernel
theorem dX7_bookedFor_3 : decode cX7_bookedFor 3 = .ok (.istore_n 3, 1) := by decide +kernel
theorem dX7_bookedFor_4 : decode cX7_bookedFor 4 = .ok (.iload_n 3, 1) := by decide +kernel
theorem dX7_bookedFor_5 : decode cX7_bookedFor 5 = .ok (.sipush 301, 3) := by decide +kernel
theorem dX7_bookedFor_8 : decode cX7_bookedFor 8 = .ok (.if_icmp .ge 24, 3) := by decide +kernel
theorem dX7_bookedFor_11 : decode cX7_bookedFor 11 = .ok (.iload_n 2, 1) := by decide +kernel
theorem dX7_bookedFor_12 : decode cX7_bookedFor 12 = .ok (.aload_n 0, 1) := by decide +kernel
theorem dX7_bookedFor_13 : decode cX7_bookedFor 13 = .ok (.getfield 49, 3) := by decide +kernel
theorem dX7_bookedFor_16 : decode cX7_bookedFor 16 = .ok (.sipush 301, 3) := by decide +kernel
theorem dX7_bookedFor_19 : decode cX7_bookedFor 19 = .ok (.iload_n 1, 1) := by decide +kernel
theorem dX7_bookedFor_20 : decode cX7_bookedFor 20 = .ok (.imul, 1) := by decide +kernel
theorem dX7_bookedFor_21 : decode cX7_bookedFor 21 = .ok (.iload_n 3, 1) := by decide +kernel
theorem dX7_bookedFor_22 : decode cX7_bookedFor 22 = .ok (.iadd, 1) := by decide +kernel
theorem dX7_bookedFor_23 : decode cX7_bookedFor 23 = .ok (.iaload, 1) := by decide +kernel
theorem dX7_bookedFor_24 : decode cX7_bookedFor 24 = .ok (.iadd, 1) := by decide +kernel
theorem dX7_bookedFor_25 : decode cX7_bookedFor 25 = .ok (.istore_n 2, 1) := by decide +kernel
theorem dX7_bookedFor_26 : decode cX7_bookedFor 26 = .ok (.iinc 3 1, 3) := by decide +kernel
theorem dX7_bookedFor_29 : decode cX7_bookedFor 29 = .ok (.goto (-25), 3) := by decide +kernel
theorem dX7_bookedFor_32 : decode cX7_bookedFor 32 = .ok (.iload_n 2, 1) := by decide +kernel
theorem dX7_bookedFor_33 : decode cX7_bookedFor 33 = .ok (.ireturn, 1) := by decide +kernel
theorem dX7_lodge_0 : decode cX7_lodge 0 = .ok (.iload_n 1, 1) := by decide +kernel
theorem dX7_lodge_1 : decode cX7_lodge 1 = .ok (.iconst 0, 1) := by decide +kernel
theorem dX7_lodge_2 : decode cX7_lodge 2 = .ok (.iconst 3, 1) := by decide +kernel
theorem dX7_lodge_3 : decode cX7_lodge 3 = .ok (.invokestatic 96, 3) := by decide +kernel
theorem dX7_lodge_6 : decode cX7_lodge 6 = .ok (.ifCond .eq 12, 3) := by decide +kernel
theorem dX7_lodge_9 : decode cX7_lodge 9 = .ok (.iload_n 2, 1) := by decide +kernel
theorem dX7_lodge_10 : decode cX7_lodge 10 = .ok (.iconst 0, 1) := by decide +kernel
theorem dX7_lodge_11 : decode cX7_lodge 11 = .ok (.iconst 2, 1) := by decide +kernel
theorem dX7_lodge_12 : decode cX7_lodge 12 = .ok (.invokestatic 96, 3) := by decide +kernel
theorem dX7_lodge_15 : decode cX7_lodge 15 = .ok (.ifCond .ne 5, 3) := by decide +kernel
theorem dX7_lodge_18 : decode cX7_lodge 18 = .ok (.iconst (-1), 1) := by decide +kernel
theorem dX7_lodge_19 : decode cX7_lodge 19 = .ok (.ireturn, 1) := by decide +kernel
theorem dX7_lodge_20 : decode cX7_lodge 20 = .ok (.iconst 0, 1) := by decide +kernel
theorem dX7_lodge_21 : decode cX7_lodge 21 = .ok (.istore_n 3, 1) := by decide +kernel
theorem dX7_lodge_22 : decode cX7_lodge 22 = .ok (.iconst 0, 1) := by decide +kernel
theorem dX7_lodge_23 : decode cX7_lodge 23 = .ok (.istore 4, 2) := by decide +kernel
theorem dX7_lodge_25 : decode cX7_lodge 25 = .ok (.iload 4, 2) := by decide +kernel
theorem dX7_lodge_27 : decode cX7_lodge 27 = .ok (.aload_n 0, 1) := by decide +kernel
theorem dX7_lodge_28 : decode cX7_lodge 28 = .ok (.getfield 92, 3) := by decide +kernel
theorem dX7_lodge_31 : decode cX7_lodge 31 = .ok (.if_icmp .ge 51, 3) := by decide +kernel
theorem dX7_lodge_34 : decode cX7_lodge 34 = .ok (.aload_n 0, 1) := by decide +kernel
theorem dX7_lodge_35 : decode cX7_lodge 35 = .ok (.getfield 13, 3) := by decide +kernel
theorem dX7_lodge_38 : decode cX7_lodge 38 = .ok (.iload 4, 2) := by decide +kernel
theorem dX7_lodge_40 : decode cX7_lodge 40 = .ok (.iaload, 1) := by decide +kernel
theorem dX7_lodge_41 : decode cX7_lodge 41 = .ok (.iload_n 1, 1) := by decide +kernel
theorem dX7_lodge_42 : decode cX7_lodge 42 = .ok (.if_icmp .ne 34, 3) := by decide +kernel
theorem dX7_lodge_45 : decode cX7_lodge 45 = .ok (.iload_n 3, 1) := by decide +kernel
theorem dX7_lodge_46 : decode cX7_lodge 46 = .ok (.iload_n 2, 1) := by decide +kernel
theorem dX7_lodge_47 : decode cX7_lodge 47 = .ok (.ifCond .ne 7, 3) := by decide +kernel
theorem dX7_lodge_50 : decode cX7_lodge 50 = .ok (.iconst 1, 1) := by decide +kernel
theorem dX7_lodge_51 : decode cX7_lodge 51 = .ok (.goto 23, 3) := by decide +kernel
theorem dX7_lodge_54 : decode cX7_lodge 54 = .ok (.iload_n 2, 1) := by decide +kernel
theorem dX7_lodge_55 : decode cX7_lodge 55 = .ok (.iconst 1, 1) := by decide +kernel
theorem dX7_lodge_56 : decode cX7_lodge 56 = .ok (.if_icmp .ne 12, 3) := by decide +kernel
theorem dX7_lodge_59 : decode cX7_lodge 59 = .ok (.aload_n 0, 1) := by decide +kernel
theorem dX7_lodge_60 : decode cX7_lodge 60 = .ok (.iload 4, 2) := by decide +kernel
theorem dX7_lodge_62 : decode cX7_lodge 62 = .ok (.invokevirtual 177, 3) := by decide +kernel
theorem dX7_lodge_65 : decode cX7_lodge 65 = .ok (.goto 9, 3) := by decide +kernel
theorem dX7_lodge_68 : decode cX7_lodge 68 = .ok (.aload_n 0, 1) := by decide +kernel
theorem dX7_lodge_69 : decode cX7_lodge 69 = .ok (.iload 4, 2) := by decide +kernel
theorem dX7_lodge_71 : decode cX7_lodge 71 = .ok (.invokevirtual 180, 3) := by decide +kernel
theorem dX7_lodge_74 : decode cX7_lodge 74 = .ok (.iadd, 1) := by decide +kernel
theorem dX7_lodge_75 : decode cX7_lodge 75 = .ok (.istore_n 3, 1) := by decide +kernel
theorem dX7_lodge_76 : decode cX7_lodge 76 = .ok (.iinc 4 1, 3) := by decide +kernel
theorem dX7_lodge_79 : decode cX7_lodge 79 = .ok (.goto (-54), 3) := by decide +kernel
theorem dX7_lodge_82 : decode cX7_lodge 82 = .ok (.iload_n 3, 1) := by decide +kernel
theorem dX7_lodge_83 : decode cX7_lodge 83 = .ok (.ireturn, 1) := by decide +kernel
theorem dX7_member_0 : decode cX7_member 0 = .ok (.aload_n 0, 1) := by decide +kernel
theorem dX7_member_1 : decode cX7_member 1 = .ok (.iload_n 1, 1) := by decide +kernel
theorem dX7_member_2 : decode cX7_member 2 = .ok (.invokevirtual 132, 3) := by decide +kernel
theorem dX7_member_5 : decode cX7_member 5 = .ok (.ifCond .ne 5, 3) := by decide +kernel
theorem dX7_member_8 : decode cX7_member 8 = .ok (.iconst (-1), 1) := by decide +kernel
theorem dX7_member_9 : decode cX7_member 9 = .ok (.ireturn, 1) := by decide +kernel
theorem dX7_member_10 : decode cX7_member 10 = .ok (.iload_n 2, 1) := by decide +kernel
theorem dX7_member_11 : decode cX7_member 11 = .ok (.tableswitch 56 0 3 #[29, 36, 43, 50], 29) := by decide +kernel
theorem dX7_member_40 : decode cX7_member 40 = .ok (.aload_n 0, 1) := by decide +kernel
theorem dX7_member_41 : decode cX7_member 41 = .ok (.getfield 9, 3) := by decide +kernel
theorem dX7_member_44 : decode cX7_member 44 = .ok (.iload_n 1, 1) := by decide +kernel
theorem dX7_member_45 : decode cX7_member 45 = .ok (.iaload, 1) := by decide +kernel
theorem dX7_member_46 : decode cX7_member 46 = .ok (.ireturn, 1) := by decide +kernel
theorem dX7_member_47 : decode cX7_member 47 = .ok (.aload_n 0, 1) := by decide +kernel
theorem dX7_member_48 : decode cX7_member 48 = .ok (.getfield 13, 3) := by decide +kernel
theorem dX7_member_51 : decode cX7_member 51 = .ok (.iload_n 1, 1) := by decide +kernel
theorem dX7_member_52 : decode cX7_member 52 = .ok (.iaload, 1) := by decide +kernel
theorem dX7_member_53 : decode cX7_member 53 = .ok (.ireturn, 1) := by decide +kernel
theorem dX7_member_54 : decode cX7_member 54 = .ok (.aload_n 0, 1) := by decide +kernel
theorem dX7_member_55 : decode cX7_member 55 = .ok (.getfield 16, 3) := by decide +kernel
theorem dX7_member_58 : decode cX7_member 58 = .ok (.iload_n 1, 1) := by decide +kernel
theorem dX7_member_59 : decode cX7_member 59 = .ok (.iaload, 1) := by decide +kernel
theorem dX7_member_60 : decode cX7_member 60 = .ok (.ireturn, 1) := by decide +kernel
theorem dX7_member_61 : decode cX7_member 61 = .ok (.aload_n 0, 1) := by decide +kernel
theorem dX7_member_62 : decode cX7_member 62 = .ok (.iload_n 1, 1) := by decide +kernel
theorem dX7_member_63 : decode cX7_member 63 = .ok (.invokevirtual 177, 3) := by decide +kernel
theorem dX7_member_66 : decode cX7_member 66 = .ok (.ireturn, 1) := by decide +kernel
theorem dX7_member_67 : decode cX7_member 67 = .ok (.iconst (-1), 1) := by decide +kernel
theorem dX7_member_68 : decode cX7_member 68 = .ok (.ireturn, 1) := by decide +kernel
theorem dX7_told_0 : decode cX7_told 0 = .ok (.iload_n 1, 1) := by decide +kernel
theorem dX7_told_1 : decode cX7_told 1 = .ok (.iconst 0, 1) := by decide +kernel
theorem dX7_told_2 : decode cX7_told 2 = .ok (.aload_n 0, 1) := by decide +kernel
theorem dX7_told_3 : decode cX7_told 3 = .ok (.getfield 121, 3) := by decide +kernel
theorem dX7_told_6 : decode cX7_told 6 = .ok (.iconst 1, 1) := by decide +kernel
theorem dX7_told_7 : decode cX7_told 7 = .ok (.isub, 1) := by decide +kernel
theorem dX7_told_8 : decode cX7_told 8 = .ok (.invokestatic 96, 3) := by decide +kernel
theorem dX7_told_11 : decode cX7_told 11 = .ok (.ifCond .ne 5, 3) := by decide +kernel
theorem dX7_told_14 : decode cX7_told 14 = .ok (.iconst (-1), 1) := by decide +kernel
theorem dX7_told_15 : decode cX7_told 15 = .ok (.ireturn, 1) := by decide +kernel
theorem dX7_told_16 : decode cX7_told 16 = .ok (.iload_n 2, 1) := by decide +kernel
theorem dX7_told_17 : decode cX7_told 17 = .ok (.tableswitch 70 0 4 #[35, 42, 49, 56, 63], 35) := by decide +kernel
theorem dX7_told_52 : decode cX7_told 52 = .ok (.aload_n 0, 1) := by decide +kernel
theorem dX7_told_53 : decode cX7_told 53 = .ok (.getfield 34, 3) := by decide +kernel
theorem dX7_told_56 : decode cX7_told 56 = .ok (.iload_n 1, 1) := by decide +kernel
theorem dX7_told_57 : decode cX7_told 57 = .ok (.iaload, 1) := by decide +kernel
theorem dX7_told_58 : decode cX7_told 58 = .ok (.ireturn, 1) := by decide +kernel
theorem dX7_told_59 : decode cX7_told 59 = .ok (.aload_n 0, 1) := by decide +kernel
theorem dX7_told_60 : decode cX7_told 60 = .ok (.getfield 37, 3) := by decide +kernel
theorem dX7_told_63 : decode cX7_told 63 = .ok (.iload_n 1, 1) := by decide +kernel
theorem dX7_told_64 : decode cX7_told 64 = .ok (.iaload, 1) := by decide +kernel
theorem dX7_told_65 : decode cX7_told 65 = .ok (.ireturn, 1) := by decide +kernel
theorem dX7_told_66 : decode cX7_told 66 = .ok (.aload_n 0, 1) := by decide +kernel
theorem dX7_told_67 : decode cX7_told 67 = .ok (.getfield 40, 3) := by decide +kernel
theorem dX7_told_70 : decode cX7_told 70 = .ok (.iload_n 1, 1) := by decide +kernel
theorem dX7_told_71 : decode cX7_told 71 = .ok (.iaload, 1) := by decide +kernel
theorem dX7_told_72 : decode cX7_told 72 = .ok (.ireturn, 1) := by decide +kernel
theorem dX7_told_73 : decode cX7_told 73 = .ok (.aload_n 0, 1) := by decide +kernel
theorem dX7_told_74 : decode cX7_told 74 = .ok (.getfield 43, 3) := by decide +kernel
theorem dX7_told_77 : decode cX7_told 77 = .ok (.iload_n 1, 1) := by decide +kernel
theorem dX7_told_78 : decode cX7_told 78 = .ok (.iaload, 1) := by decide +kernel
theorem dX7_told_79 : decode cX7_told 79 = .ok (.ireturn, 1) := by decide +kernel
theorem dX7_told_80 : decode cX7_told 80 = .ok (.aload_n 0, 1) := by decide +kernel
theorem dX7_told_81 : decode cX7_told 81 = .ok (.getfield 46, 3) := by decide +kernel
theorem dX7_told_84 : decode cX7_told 84 = .ok (.iload_n 1, 1) := by decide +kernel
theorem dX7_told_85 : decode cX7_told 85 = .ok (.iaload, 1) := by decide +kernel
theorem dX7_told_86 : decode cX7_told 86 = .ok (.ireturn, 1) := by decide +kernel
theorem dX7_told_87 : decode cX7_told 87 = .ok (.iconst (-1), 1) := by decide +kernel
theorem dX7_told_88 : decode cX7_told 88 = .ok (.ireturn, 1) := by decide +kernel
theorem dX7_count_0 : decode cX7_count 0 = .ok (.iconst 0, 1) := by decide +kernel
theorem dX7_count_1 : decode cX7_count 1 = .ok (.istore_n 2, 1) := by decide +kernel
theorem dX7_count_2 : decode cX7_count 2 = .ok (.iconst 0, 1) := by decide +kernel
theorem dX7_count_3 : decode cX7_count 3 = .ok (.istore_n 3, 1) := by decide +kernel
theorem dX7_count_4 : decode cX7_count 4 = .ok (.iconst 0, 1) := by decide +kernel
theorem dX7_count_5 : decode cX7_count 5 = .ok (.istore 4, 2) := by decide +kernel
theorem dX7_count_7 : decode cX7_count 7 = .ok (.iload 4, 2) := by decide +kernel
theorem dX7_count_9 : decode cX7_count 9 = .ok (.aload_n 0, 1) := by decide +kernel
theorem dX7_count_10 : decode cX7_count 10 = .ok (.getfield 92, 3) := by decide +kernel
theorem dX7_count_13 : decode cX7_count 13 = .ok (.if_icmp .ge 27, 3) := by decide +kernel
theorem dX7_count_16 : decode cX7_count 16 = .ok (.iload_n 2, 1) := by decide +kernel
theorem dX7_count_17 : decode cX7_count 17 = .ok (.aload_n 0, 1) := by decide +kernel
theorem dX7_count_18 : decode cX7_count 18 = .ok (.iload 4, 2) := by decide +kernel
theorem dX7_count_20 : decode cX7_count 20 = .ok (.invokevirtual 177, 3) := by decide +kernel
theorem dX7_count_23 : decode cX7_count 23 = .ok (.iadd, 1) := by decide +kernel
theorem dX7_count_24 : decode cX7_count 24 = .ok (.istore_n 2, 1) := by decide +kernel
theorem dX7_count_25 : decode cX7_count 25 = .ok (.iload_n 3, 1) := by decide +kernel
theorem dX7_count_26 : decode cX7_count 26 = .ok (.aload_n 0, 1) := by decide +kernel
theorem dX7_count_27 : decode cX7_count 27 = .ok (.iload 4, 2) := by decide +kernel
theorem dX7_count_29 : decode cX7_count 29 = .ok (.invokevirtual 180, 3) := by decide +kernel
theorem dX7_count_32 : decode cX7_count 32 = .ok (.iadd, 1) := by decide +kernel
theorem dX7_count_33 : decode cX7_count 33 = .ok (.istore_n 3, 1) := by decide +kernel
theorem dX7_count_34 : decode cX7_count 34 = .ok (.iinc 4 1, 3) := by decide +kernel
theorem dX7_count_37 : decode cX7_count 37 = .ok (.goto (-30), 3) := by decide +kernel
theorem dX7_count_40 : decode cX7_count 40 = .ok (.iload_n 1, 1) := by decide +kernel
theorem dX7_count_41 : decode cX7_count 41 = .ok (.tableswitch 83 0 7 #[47, 52, 57, 62, 67, 72, 76, 81], 47) := by decide +kernel
theorem dX7_count_88 : decode cX7_count 88 = .ok (.aload_n 0, 1) := by decide +kernel
theorem dX7_count_89 : decode cX7_count 89 = .ok (.getfield 100, 3) := by decide +kernel
theorem dX7_count_92 : decode cX7_count 92 = .ok (.ireturn, 1) := by decide +kernel
theorem dX7_count_93 : decode cX7_count 93 = .ok (.aload_n 0, 1) := by decide +kernel
theorem dX7_count_94 : decode cX7_count 94 = .ok (.getfield 92, 3) := by decide +kernel
theorem dX7_count_97 : decode cX7_count 97 = .ok (.ireturn, 1) := by decide +kernel
theorem dX7_count_98 : decode cX7_count 98 = .ok (.aload_n 0, 1) := by decide +kernel
theorem dX7_count_99 : decode cX7_count 99 = .ok (.getfield 137, 3) := by decide +kernel
theorem dX7_count_102 : decode cX7_count 102 = .ok (.ireturn, 1) := by decide +kernel
theorem dX7_count_103 : decode cX7_count 103 = .ok (.aload_n 0, 1) := by decide +kernel
theorem dX7_count_104 : decode cX7_count 104 = .ok (.getfield 121, 3) := by decide +kernel
theorem dX7_count_107 : decode cX7_count 107 = .ok (.ireturn, 1) := by decide +kernel
theorem dX7_count_108 : decode cX7_count 108 = .ok (.aload_n 0, 1) := by decide +kernel
theorem dX7_count_109 : decode cX7_count 109 = .ok (.getfield 158, 3) := by decide +kernel
theorem dX7_count_112 : decode cX7_count 112 = .ok (.ireturn, 1) := by decide +kernel
theorem dX7_count_113 : decode cX7_count 113 = .ok (.iload_n 2, 1) := by decide +kernel
theorem dX7_count_114 : decode cX7_count 114 = .ok (.iload_n 3, 1) := by decide +kernel
theorem dX7_count_115 : decode cX7_count 115 = .ok (.isub, 1) := by decide +kernel
theorem dX7_count_116 : decode cX7_count 116 = .ok (.ireturn, 1) := by decide +kernel
theorem dX7_count_117 : decode cX7_count 117 = .ok (.aload_n 0, 1) := by decide +kernel
theorem dX7_count_118 : decode cX7_count 118 = .ok (.invokevirtual 183, 3) := by decide +kernel
theorem dX7_count_121 : decode cX7_count 121 = .ok (.ireturn, 1) := by decide +kernel
theorem dX7_count_122 : decode cX7_count 122 = .ok (.iload_n 2, 1) := by decide +kernel
theorem dX7_count_123 : decode cX7_count 123 = .ok (.ireturn, 1) := by decide +kernel
theorem dX7_count_124 : decode cX7_count 124 = .ok (.ldc 136, 2) := by decide +kernel
theorem dX7_count_126 : decode cX7_count 126 = .ok (.ireturn, 1) := by decide +kernel
theorem dX7_outNow_0 : decode cX7_outNow 0 = .ok (.aload_n 0, 1) := by decide +kernel
theorem dX7_outNow_1 : decode cX7_outNow 1 = .ok (.aload_n 0, 1) := by decide +kernel
theorem dX7_outNow_2 : decode cX7_outNow 2 = .ok (.getfield 100, 3) := by decide +kernel
theorem dX7_outNow_5 : decode cX7_outNow 5 = .ok (.aload_n 0, 1) := by decide +kernel
theorem dX7_outNow_6 : decode cX7_outNow 6 = .ok (.getfield 137, 3) := by decide +kernel
theorem dX7_outNow_9 : decode cX7_outNow 9 = .ok (.invokevirtual 140, 3) := by decide +kernel
theorem dX7_outNow_12 : decode cX7_outNow 12 = .ok (.iconst 0, 1) := by decide +kernel
theorem dX7_outNow_13 : decode cX7_outNow 13 = .ok (.istore_n 1, 1) := by decide +kernel
theorem dX7_outNow_14 : decode cX7_outNow 14 = .ok (.iconst 0, 1) := by decide +kernel
theorem dX7_outNow_15 : decode cX7_outNow 15 = .ok (.istore_n 2, 1) := by decide +kernel
theorem dX7_outNow_16 : decode cX7_outNow 16 = .ok (.iload_n 2, 1) := by decide +kernel
theorem dX7_outNow_17 : decode cX7_outNow 17 = .ok (.aload_n 0, 1) := by decide +kernel
theorem dX7_outNow_18 : decode cX7_outNow 18 = .ok (.getfield 92, 3) := by decide +kernel
theorem dX7_outNow_21 : decode cX7_outNow 21 = .ok (.if_icmp .ge 29, 3) := by decide +kernel
theorem dX7_outNow_24 : decode cX7_outNow 24 = .ok (.iload_n 1, 1) := by decide +kernel
theorem dX7_outNow_25 : decode cX7_outNow 25 = .ok (.aload_n 0, 1) := by decide +kernel
theorem dX7_outNow_26 : decode cX7_outNow 26 = .ok (.iload_n 2, 1) := by decide +kernel
theorem dX7_outNow_27 : decode cX7_outNow 27 = .ok (.aload_n 0, 1) := by decide +kernel
theorem dX7_outNow_28 : decode cX7_outNow 28 = .ok (.getfield 100, 3) := by decide +kernel
theorem dX7_outNow_31 : decode cX7_outNow 31 = .ok (.invokevirtual 124, 3) := by decide +kernel
theorem dX7_outNow_34 : decode cX7_outNow 34 = .ok (.ifCond .eq 7, 3) := by decide +kernel
theorem dX7_outNow_37 : decode cX7_outNow 37 = .ok (.iconst 1, 1) := by decide +kernel
theorem dX7_outNow_38 : decode cX7_outNow 38 = .ok (.goto 4, 3) := by decide +kernel
theorem dX7_outNow_41 : decode cX7_outNow 41 = .ok (.iconst 0, 1) := by decide +kernel
theorem dX7_outNow_42 : decode cX7_outNow 42 = .ok (.iadd, 1) := by decide +kernel
theorem dX7_outNow_43 : decode cX7_outNow 43 = .ok (.istore_n 1, 1) := by decide +kernel
theorem dX7_outNow_44 : decode cX7_outNow 44 = .ok (.iinc 2 1, 3) := by decide +kernel
theorem dX7_outNow_47 : decode cX7_outNow 47 = .ok (.goto (-31), 3) := by decide +kernel
theorem dX7_outNow_50 : decode cX7_outNow 50 = .ok (.iload_n 1, 1) := by decide +kernel
theorem dX7_outNow_51 : decode cX7_outNow 51 = .ok (.ireturn, 1) := by decide +kernel
