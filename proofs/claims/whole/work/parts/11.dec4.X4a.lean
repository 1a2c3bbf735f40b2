theorem dX4_init_0 : decode cX4_init 0 = .ok (.aload_n 0, 1) := by decide +kernel
theorem dX4_init_1 : decode cX4_init 1 = .ok (.invokespecial 1, 3) := by decide +kernel
theorem dX4_init_4 : decode cX4_init 4 = .ok (.aload_n 0, 1) := by decide +kernel
theorem dX4_init_5 : decode cX4_init 5 = .ok (.iconst 0, 1) := by decide +kernel
theorem dX4_init_6 : decode cX4_init 6 = .ok (.putfield 7, 3) := by decide +kernel
theorem dX4_init_9 : decode cX4_init 9 = .ok (.aload_n 0, 1) := by decide +kernel
theorem dX4_init_10 : decode cX4_init 10 = .ok (.iconst 0, 1) := by decide +kernel
theorem dX4_init_11 : decode cX4_init 11 = .ok (.putfield 13, 3) := by decide +kernel
theorem dX4_init_14 : decode cX4_init 14 = .ok (.aload_n 0, 1) := by decide +kernel
theorem dX4_init_15 : decode cX4_init 15 = .ok (.bipush 18, 2) := by decide +kernel
theorem dX4_init_17 : decode cX4_init 17 = .ok (.newarray .int, 2) := by decide +kernel
theorem dX4_init_19 : decode cX4_init 19 = .ok (.putfield 16, 3) := by decide +kernel
theorem dX4_init_22 : decode cX4_init 22 = .ok (.aload_n 0, 1) := by decide +kernel
theorem dX4_init_23 : decode cX4_init 23 = .ok (.bipush 6, 2) := by decide +kernel
theorem dX4_init_25 : decode cX4_init 25 = .ok (.newarray .int, 2) := by decide +kernel
theorem dX4_init_27 : decode cX4_init 27 = .ok (.putfield 20, 3) := by decide +kernel
theorem dX4_init_30 : decode cX4_init 30 = .ok (.aload_n 0, 1) := by decide +kernel
theorem dX4_init_31 : decode cX4_init 31 = .ok (.bipush 6, 2) := by decide +kernel
theorem dX4_init_33 : decode cX4_init 33 = .ok (.newarray .int, 2) := by decide +kernel
theorem dX4_init_35 : decode cX4_init 35 = .ok (.putfield 23, 3) := by decide +kernel
theorem dX4_init_38 : decode cX4_init 38 = .ok (.aload_n 0, 1) := by decide +kernel
theorem dX4_init_39 : decode cX4_init 39 = .ok (.bipush 6, 2) := by decide +kernel
theorem dX4_init_41 : decode cX4_init 41 = .ok (.newarray .int, 2) := by decide +kernel
theorem dX4_init_43 : decode cX4_init 43 = .ok (.putfield 26, 3) := by decide +kernel
theorem dX4_init_46 : decode cX4_init 46 = .ok (.aload_n 0, 1) := by decide +kernel
theorem dX4_init_47 : decode cX4_init 47 = .ok (.bipush 6, 2) := by decide +kernel
theorem dX4_init_49 : decode cX4_init 49 = .ok (.newarray .int, 2) := by decide +kernel
theorem dX4_init_51 : decode cX4_init 51 = .ok (.putfield 29, 3) := by decide +kernel
theorem dX4_init_54 : decode cX4_init 54 = .ok (.aload_n 0, 1) := by decide +kernel
theorem dX4_init_55 : decode cX4_init 55 = .ok (.bipush 6, 2) := by decide +kernel
theorem dX4_init_57 : decode cX4_init 57 = .ok (.newarray .int, 2) := by decide +kernel
theorem dX4_init_59 : decode cX4_init 59 = .ok (.putfield 32, 3) := by decide +kernel
theorem dX4_init_62 : decode cX4_init 62 = .ok (.aload_n 0, 1) := by decide +kernel
theorem dX4_init_63 : decode cX4_init 63 = .ok (.iconst 0, 1) := by decide +kernel
theorem dX4_init_64 : decode cX4_init 64 = .ok (.putfield 35, 3) := by decide +kernel
theorem dX4_init_67 : decode cX4_init 67 = .ok (.aload_n 0, 1) := by decide +kernel
theorem dX4_init_68 : decode cX4_init 68 = .ok (.iconst 0, 1) := by decide +kernel
theorem dX4_init_69 : decode cX4_init 69 = .ok (.putfield 38, 3) := by decide +kernel
theorem dX4_init_72 : decode cX4_init 72 = .ok (.aload_n 0, 1) := by decide +kernel
theorem dX4_init_73 : decode cX4_init 73 = .ok (.bipush 6, 2) := by decide +kernel
theorem dX4_init_75 : decode cX4_init 75 = .ok (.newarray .int, 2) := by decide +kernel
theorem dX4_init_77 : decode cX4_init 77 = .ok (.putfield 41, 3) := by decide +kernel
theorem dX4_init_80 : decode cX4_init 80 = .ok (.aload_n 0, 1) := by decide +kernel
theorem dX4_init_81 : decode cX4_init 81 = .ok (.bipush 6, 2) := by decide +kernel
theorem dX4_init_83 : decode cX4_init 83 = .ok (.newarray .int, 2) := by decide +kernel
theorem dX4_init_85 : decode cX4_init 85 = .ok (.putfield 44, 3) := by decide +kernel
theorem dX4_init_88 : decode cX4_init 88 = .ok (.aload_n 0, 1) := by decide +kernel
theorem dX4_init_89 : decode cX4_init 89 = .ok (.bipush 6, 2) := by decide +kernel
theorem dX4_init_91 : decode cX4_init 91 = .ok (.newarray .int, 2) := by decide +kernel
theorem dX4_init_93 : decode cX4_init 93 = .ok (.putfield 47, 3) := by decide +kernel
theorem dX4_init_96 : decode cX4_init 96 = .ok (.aload_n 0, 1) := by decide +kernel
theorem dX4_init_97 : decode cX4_init 97 = .ok (.bipush 6, 2) := by decide +kernel
theorem dX4_init_99 : decode cX4_init 99 = .ok (.newarray .int, 2) := by decide +kernel
theorem dX4_init_101 : decode cX4_init 101 = .ok (.putfield 50, 3) := by decide +kernel
theorem dX4_init_104 : decode cX4_init 104 = .ok (.aload_n 0, 1) := by decide +kernel
theorem dX4_init_105 : decode cX4_init 105 = .ok (.bipush 6, 2) := by decide +kernel
theorem dX4_init_107 : decode cX4_init 107 = .ok (.newarray .int, 2) := by decide +kernel
theorem dX4_init_109 : decode cX4_init 109 = .ok (.putfield 53, 3) := by decide +kernel
theorem dX4_init_112 : decode cX4_init 112 = .ok (.aload_n 0, 1) := by decide +kernel
theorem dX4_init_113 : decode cX4_init 113 = .ok (.bipush 6, 2) := by decide +kernel
theorem dX4_init_115 : decode cX4_init 115 = .ok (.newarray .int, 2) := by decide +kernel
theorem dX4_init_117 : decode cX4_init 117 = .ok (.putfield 56, 3) := by decide +kernel
theorem dX4_init_120 : decode cX4_init 120 = .ok (.aload_n 0, 1) := by decide +kernel
theorem dX4_init_121 : decode cX4_init 121 = .ok (.bipush 6, 2) := by decide +kernel
theorem dX4_init_123 : decode cX4_init 123 = .ok (.newarray .int, 2) := by decide +kernel
theorem dX4_init_125 : decode cX4_init 125 = .ok (.putfield 59, 3) := by decide +kernel
theorem dX4_init_128 : decode cX4_init 128 = .ok (.aload_n 0, 1) := by decide +kernel
theorem dX4_init_129 : decode cX4_init 129 = .ok (.iconst 0, 1) := by decide +kernel
theorem dX4_init_130 : decode cX4_init 130 = .ok (.putfield 62, 3) := by decide +kernel
theorem dX4_init_133 : decode cX4_init 133 = .ok (.aload_n 0, 1) := by decide +kernel
theorem dX4_init_134 : decode cX4_init 134 = .ok (.iconst 0, 1) := by decide +kernel
theorem dX4_init_135 : decode cX4_init 135 = .ok (.putfield 66, 3) := by decide +kernel
theorem dX4_init_138 : decode cX4_init 138 = .ok (.aload_n 0, 1) := by decide +kernel
theorem dX4_init_139 : decode cX4_init 139 = .ok (.bipush 6, 2) := by decide +kernel
theorem dX4_init_141 : decode cX4_init 141 = .ok (.newarray .int, 2) := by decide +kernel
theorem dX4_init_143 : decode cX4_init 143 = .ok (.putfield 69, 3) := by decide +kernel
theorem dX4_init_146 : decode cX4_init 146 = .ok (.aload_n 0, 1) := by decide +kernel
theorem dX4_init_147 : decode cX4_init 147 = .ok (.bipush 6, 2) := by decide +kernel
theorem dX4_init_149 : decode cX4_init 149 = .ok (.newarray .int, 2) := by decide +kernel
theorem dX4_init_151 : decode cX4_init 151 = .ok (.putfield 72, 3) := by decide +kernel
theorem dX4_init_154 : decode cX4_init 154 = .ok (.aload_n 0, 1) := by decide +kernel
theorem dX4_init_155 : decode cX4_init 155 = .ok (.bipush 6, 2) := by decide +kernel
theorem dX4_init_157 : decode cX4_init 157 = .ok (.newarray .int, 2) := by decide +kernel
theorem dX4_init_159 : decode cX4_init 159 = .ok (.putfield 75, 3) := by decide +kernel
theorem dX4_init_162 : decode cX4_init 162 = .ok (.aload_n 0, 1) := by decide +kernel
theorem dX4_init_163 : decode cX4_init 163 = .ok (.bipush 6, 2) := by decide +kernel
theorem dX4_init_165 : decode cX4_init 165 = .ok (.newarray .int, 2) := by decide +kernel
theorem dX4_init_167 : decode cX4_init 167 = .ok (.putfield 78, 3) := by decide +kernel
theorem dX4_init_170 : decode cX4_init 170 = .ok (.aload_n 0, 1) := by decide +kernel
theorem dX4_init_171 : decode cX4_init 171 = .ok (.iconst 0, 1) := by decide +kernel
theorem dX4_init_172 : decode cX4_init 172 = .ok (.putfield 81, 3) := by decide +kernel
theorem dX4_init_175 : decode cX4_init 175 = .ok (.aload_n 0, 1) := by decide +kernel
theorem dX4_init_176 : decode cX4_init 176 = .ok (.iconst 0, 1) := by decide +kernel
theorem dX4_init_177 : decode cX4_init 177 = .ok (.putfield 84, 3) := by decide +kernel
theorem dX4_init_180 : decode cX4_init 180 = .ok (.aload_n 0, 1) := by decide +kernel
theorem dX4_init_181 : decode cX4_init 181 = .ok (.iconst 0, 1) := by decide +kernel
theorem dX4_init_182 : decode cX4_init 182 = .ok (.putfield 87, 3) := by decide +kernel
theorem dX4_init_185 : decode cX4_init 185 = .ok (.aload_n 0, 1) := by decide +kernel
theorem dX4_init_186 : decode cX4_init 186 = .ok (.bipush 6, 2) := by decide +kernel
theorem dX4_init_188 : decode cX4_init 188 = .ok (.newarray .int, 2) := by decide +kernel
theorem dX4_init_190 : decode cX4_init 190 = .ok (.putfield 90, 3) := by decide +kernel
theorem dX4_init_193 : decode cX4_init 193 = .ok (.aload_n 0, 1) := by decide +kernel
theorem dX4_init_194 : decode cX4_init 194 = .ok (.bipush 7, 2) := by decide +kernel
theorem dX4_init_196 : decode cX4_init 196 = .ok (.newarray .int, 2) := by decide +kernel
theorem dX4_init_198 : decode cX4_init 198 = .ok (.putfield 93, 3) := by decide +kernel
theorem dX4_init_201 : decode cX4_init 201 = .ok (.aload_n 0, 1) := by decide +kernel
theorem dX4_init_202 : decode cX4_init 202 = .ok (.bipush 7, 2) := by decide +kernel
theorem dX4_init_204 : decode cX4_init 204 = .ok (.newarray .int, 2) := by decide +kernel
theorem dX4_init_206 : decode cX4_init 206 = .ok (.putfield 96, 3) := by decide +kernel
theorem dX4_init_209 : decode cX4_init 209 = .ok (.aload_n 0, 1) := by decide +kernel
theorem dX4_init_210 : decode cX4_init 210 = .ok (.bipush 7, 2) := by decide +kernel
theorem dX4_init_212 : decode cX4_init 212 = .ok (.newarray .int, 2) := by decide +kernel
theorem dX4_init_214 : decode cX4_init 214 = .ok (.putfield 99, 3) := by decide +kernel
theorem dX4_init_217 : decode cX4_init 217 = .ok (.aload_n 0, 1) := by decide +kernel
theorem dX4_init_218 : decode cX4_init 218 = .ok (.bipush 7, 2) := by decide +kernel
theorem dX4_init_220 : decode cX4_init 220 = .ok (.newarray .int, 2) := by decide +kernel
theorem dX4_init_222 : decode cX4_init 222 = .ok (.putfield 102, 3) := by decide +kernel
theorem dX4_init_225 : decode cX4_init 225 = .ok (.aload_n 0, 1) := by decide +kernel
theorem dX4_init_226 : decode cX4_init 226 = .ok (.sipush 168, 3) := by decide +kernel
theorem dX4_init_229 : decode cX4_init 229 = .ok (.newarray .int, 2) := by decide +kernel
theorem dX4_init_231 : decode cX4_init 231 = .ok (.putfield 105, 3) := by decide +kernel
theorem dX4_init_234 : decode cX4_init 234 = .ok (.aload_n 0, 1) := by decide +kernel
theorem dX4_init_235 : decode cX4_init 235 = .ok (.bipush 21, 2) := by decide +kernel
theorem dX4_init_237 : decode cX4_init 237 = .ok (.newarray .int, 2) := by decide +kernel
theorem dX4_init_239 : decode cX4_init 239 = .ok (.putfield 108, 3) := by decide +kernel
theorem dX4_init_242 : decode cX4_init 242 = .ok (.aload_n 0, 1) := by decide +kernel
theorem dX4_init_243 : decode cX4_init 243 = .ok (.bipush 8, 2) := by decide +kernel
theorem dX4_init_245 : decode cX4_init 245 = .ok (.newarray .int, 2) := by decide +kernel
theorem dX4_init_247 : decode cX4_init 247 = .ok (.putfield 111, 3) := by decide +kernel
theorem dX4_init_250 : decode cX4_init 250 = .ok (.aload_n 0, 1) := by decide +kernel
theorem dX4_init_251 : decode cX4_init 251 = .ok (.iload_n 1, 1) := by decide +kernel
theorem dX4_init_252 : decode cX4_init 252 = .ok (.invokestatic 114, 3) := by decide +kernel
theorem dX4_init_255 : decode cX4_init 255 = .ok (.putfield 118, 3) := by decide +kernel
theorem dX4_init_258 : decode cX4_init 258 = .ok (.aload_n 0, 1) := by decide +kernel
theorem dX4_init_259 : decode cX4_init 259 = .ok (.iload_n 2, 1) := by decide +kernel
theorem dX4_init_260 : decode cX4_init 260 = .ok (.invokestatic 114, 3) := by decide +kernel
theorem dX4_init_263 : decode cX4_init 263 = .ok (.putfield 121, 3) := by decide +kernel
theorem dX4_init_266 : decode cX4_init 266 = .ok (.aload_n 0, 1) := by decide +kernel
theorem dX4_init_267 : decode cX4_init 267 = .ok (.iload_n 3, 1) := by decide +kernel
theorem dX4_init_268 : decode cX4_init 268 = .ok (.invokestatic 114, 3) := by decide +kernel
theorem dX4_init_271 : decode cX4_init 271 = .ok (.putfield 124, 3) := by decide +kernel
theorem dX4_init_274 : decode cX4_init 274 = .ok (.iconst 0, 1) := by decide +kernel
theorem dX4_init_275 : decode cX4_init 275 = .ok (.istore 4, 2) := by decide +kernel
theorem dX4_init_277 : decode cX4_init 277 = .ok (.iload 4, 2) := by decide +kernel
theorem dX4_init_279 : decode cX4_init 279 = .ok (.bipush 6, 2) := by decide +kernel
theorem dX4_init_281 : decode cX4_init 281 = .ok (.if_icmp .ge 17, 3) := by decide +kernel
theorem dX4_init_284 : decode cX4_init 284 = .ok (.aload_n 0, 1) := by decide +kernel
theorem dX4_init_285 : decode cX4_init 285 = .ok (.getfield 41, 3) := by decide +kernel
theorem dX4_init_288 : decode cX4_init 288 = .ok (.iload 4, 2) := by decide +kernel
theorem dX4_init_290 : decode cX4_init 290 = .ok (.iconst (-1), 1) := by decide +kernel
theorem dX4_init_291 : decode cX4_init 291 = .ok (.iastore, 1) := by decide +kernel
theorem dX4_init_292 : decode cX4_init 292 = .ok (.iinc 4 1, 3) := by decide +kernel
theorem dX4_init_295 : decode cX4_init 295 = .ok (.goto (-18), 3) := by decide +kernel
theorem dX4_init_298 : decode cX4_init 298 = .ok (.return_, 1) := by decide +kernel
theorem dX4_held_0 : decode cX4_held 0 = .ok (.iload_n 0, 1) := by decide +kernel
theorem dX4_held_1 : decode cX4_held 1 = .ok (.iconst 1, 1) := by decide +kernel
theorem dX4_held_2 : decode cX4_held 2 = .ok (.if_icmp .ge 7, 3) := by decide +kernel
theorem dX4_held_5 : decode cX4_held 5 = .ok (.iconst 1, 1) := by decide +kernel
theorem dX4_held_6 : decode cX4_held 6 = .ok (.goto 15, 3) := by decide +kernel
theorem dX4_held_9 : decode cX4_held 9 = .ok (.iload_n 0, 1) := by decide +kernel
theorem dX4_held_10 : decode cX4_held 10 = .ok (.bipush 8, 2) := by decide +kernel
theorem dX4_held_12 : decode cX4_held 12 = .ok (.if_icmp .le 8, 3) := by decide +kernel
theorem dX4_held_15 : decode cX4_held 15 = .ok (.bipush 8, 2) := by decide +kernel
theorem dX4_held_17 : decode cX4_held 17 = .ok (.goto 4, 3) := by decide +kernel
theorem dX4_held_20 : decode cX4_held 20 = .ok (.iload_n 0, 1) := by decide +kernel
theorem dX4_held_21 : decode cX4_held 21 = .ok (.ireturn, 1) := by decide +kernel
theorem dX4_from_0 : decode cX4_from 0 = .ok (.iload_n 0, 1) := by decide +kernel
theorem dX4_from_1 : decode cX4_from 1 = .ok (.tableswitch 113 0 4 #[35, 37, 56, 75, 94], 35) := by decide +kernel
theorem dX4_from_36 : decode cX4_from 36 = .ok (.iload_n 1, 1) := by decide +kernel
theorem dX4_from_37 : decode cX4_from 37 = .ok (.ireturn, 1) := by decide +kernel
theorem dX4_from_38 : decode cX4_from 38 = .ok (.iload_n 1, 1) := by decide +kernel
theorem dX4_from_39 : decode cX4_from 39 = .ok (.ifCond .ne 7, 3) := by decide +kernel
theorem dX4_from_42 : decode cX4_from 42 = .ok (.iconst 1, 1) := by decide +kernel
theorem dX4_from_43 : decode cX4_from 43 = .ok (.goto 13, 3) := by decide +kernel
theorem dX4_from_46 : decode cX4_from 46 = .ok (.iload_n 1, 1) := by decide +kernel
theorem dX4_from_47 : decode cX4_from 47 = .ok (.iconst 1, 1) := by decide +kernel
theorem dX4_from_48 : decode cX4_from 48 = .ok (.if_icmp .ne 7, 3) := by decide +kernel
theorem dX4_from_51 : decode cX4_from 51 = .ok (.iconst 0, 1) := by decide +kernel
theorem dX4_from_52 : decode cX4_from 52 = .ok (.goto 4, 3) := by decide +kernel
theorem dX4_from_55 : decode cX4_from 55 = .ok (.iconst 2, 1) := by decide +kernel
theorem dX4_from_56 : decode cX4_from 56 = .ok (.ireturn, 1) := by decide +kernel
theorem dX4_from_57 : decode cX4_from 57 = .ok (.iload_n 1, 1) := by decide +kernel
theorem dX4_from_58 : decode cX4_from 58 = .ok (.ifCond .ne 7, 3) := by decide +kernel
theorem dX4_from_61 : decode cX4_from 61 = .ok (.iconst 0, 1) := by decide +kernel
theorem dX4_from_62 : decode cX4_from 62 = .ok (.goto 13, 3) := by decide +kernel
theorem dX4_from_65 : decode cX4_from 65 = .ok (.iload_n 1, 1) := by decide +kernel
theorem dX4_from_66 : decode cX4_from 66 = .ok (.iconst 1, 1) := by decide +kernel
theorem dX4_from_67 : decode cX4_from 67 = .ok (.if_icmp .ne 7, 3) := by decide +kernel
theorem dX4_from_70 : decode cX4_from 70 = .ok (.iconst 2, 1) := by decide +kernel
theorem dX4_from_71 : decode cX4_from 71 = .ok (.goto 4, 3) := by decide +kernel
theorem dX4_from_74 : decode cX4_from 74 = .ok (.iconst 1, 1) := by decide +kernel
theorem dX4_from_75 : decode cX4_from 75 = .ok (.ireturn, 1) := by decide +kernel
theorem dX4_from_76 : decode cX4_from 76 = .ok (.iload_n 1, 1) := by decide +kernel
theorem dX4_from_77 : decode cX4_from 77 = .ok (.ifCond .ne 7, 3) := by decide +kernel
theorem dX4_from_80 : decode cX4_from 80 = .ok (.iconst 2, 1) := by decide +kernel
theorem dX4_from_81 : decode cX4_from 81 = .ok (.goto 13, 3) := by decide +kernel
theorem dX4_from_84 : decode cX4_from 84 = .ok (.iload_n 1, 1) := by decide +kernel
theorem dX4_from_85 : decode cX4_from 85 = .ok (.iconst 1, 1) := by decide +kernel
theorem dX4_from_86 : decode cX4_from 86 = .ok (.if_icmp .ne 7, 3) := by decide +kernel
theorem dX4_from_89 : decode cX4_from 89 = .ok (.iconst 0, 1) := by decide +kernel
theorem dX4_from_90 : decode cX4_from 90 = .ok (.goto 4, 3) := by decide +kernel
theorem dX4_from_93 : decode cX4_from 93 = .ok (.iconst 1, 1) := by decide +kernel
theorem dX4_from_94 : decode cX4_from 94 = .ok (.ireturn, 1) := by decide +kernel
theorem dX4_from_95 : decode cX4_from 95 = .ok (.iload_n 1, 1) := by decide +kernel
theorem dX4_from_96 : decode cX4_from 96 = .ok (.ifCond .ne 7, 3) := by decide +kernel
theorem dX4_from_99 : decode cX4_from 99 = .ok (.iconst 1, 1) := by decide +kernel
theorem dX4_from_100 : decode cX4_from 100 = .ok (.goto 13, 3) := by decide +kernel
theorem dX4_from_103 : decode cX4_from 103 = .ok (.iload_n 1, 1) := by decide +kernel
theorem dX4_from_104 : decode cX4_from 104 = .ok (.iconst 1, 1) := by decide +kernel
theorem dX4_from_105 : decode cX4_from 105 = .ok (.if_icmp .ne 7, 3) := by decide +kernel
theorem dX4_from_108 : decode cX4_from 108 = .ok (.iconst 2, 1) := by decide +kernel
theorem dX4_from_109 : decode cX4_from 109 = .ok (.goto 4, 3) := by decide +kernel
theorem dX4_from_112 : decode cX4_from 112 = .ok (.iconst 0, 1) := by decide +kernel
theorem dX4_from_113 : decode cX4_from 113 = .ok (.ireturn, 1) := by decide +kernel
theorem dX4_from_114 : decode cX4_from 114 = .ok (.iconst 2, 1) := by decide +kernel
theorem dX4_from_115 : decode cX4_from 115 = .ok (.iload_n 1, 1) := by decide +kernel
theorem dX4_from_116 : decode cX4_from 116 = .ok (.isub, 1) := by decide +kernel
theorem dX4_from_117 : decode cX4_from 117 = .ok (.ireturn, 1) := by decide +kernel
theorem dX4_measure_0 : decode cX4_measure 0 = .ok (.aload_n 0, 1) := by decide +kernel
theorem dX4_measure_1 : decode cX4_measure 1 = .ok (.getfield 16, 3) := by decide +kernel
theorem dX4_measure_4 : decode cX4_measure 4 = .ok (.iconst 3, 1) := by decide +kernel
theorem dX4_measure_5 : decode cX4_measure 5 = .ok (.iload_n 1, 1) := by decide +kernel
theorem dX4_measure_6 : decode cX4_measure 6 = .ok (.imul, 1) := by decide +kernel
theorem dX4_measure_7 : decode cX4_measure 7 = .ok (.iload_n 2, 1) := by decide +kernel
theorem dX4_measure_8 : decode cX4_measure 8 = .ok (.iload_n 3, 1) := by decide +kernel
theorem dX4_measure_9 : decode cX4_measure 9 = .ok (.invokestatic 127, 3) := by decide +kernel
theorem dX4_measure_12 : decode cX4_measure 12 = .ok (.iadd, 1) := by decide +kernel
theorem dX4_measure_13 : decode cX4_measure 13 = .ok (.iaload, 1) := by decide +kernel
theorem dX4_measure_14 : decode cX4_measure 14 = .ok (.ireturn, 1) := by decide +kernel
theorem dX4_byMarks_0 : decode cX4_byMarks 0 = .ok (.iload_n 2, 1) := by decide +kernel
theorem dX4_byMarks_1 : decode cX4_byMarks 1 = .ok (.ifCond .ne 5, 3) := by decide +kernel
theorem dX4_byMarks_4 : decode cX4_byMarks 4 = .ok (.iconst 1, 1) := by decide +kernel
theorem dX4_byMarks_5 : decode cX4_byMarks 5 = .ok (.ireturn, 1) := by decide +kernel
theorem dX4_byMarks_6 : decode cX4_byMarks 6 = .ok (.iload_n 2, 1) := by decide +kernel
theorem dX4_byMarks_7 : decode cX4_byMarks 7 = .ok (.iconst 1, 1) := by decide +kernel
theorem dX4_byMarks_8 : decode cX4_byMarks 8 = .ok (.if_icmp .ne 21, 3) := by decide +kernel
theorem dX4_byMarks_11 : decode cX4_byMarks 11 = .ok (.aload_n 0, 1) := by decide +kernel
theorem dX4_byMarks_12 : decode cX4_byMarks 12 = .ok (.getfield 23, 3) := by decide +kernel
theorem dX4_byMarks_15 : decode cX4_byMarks 15 = .ok (.iload_n 1, 1) := by decide +kernel
theorem dX4_byMarks_16 : decode cX4_byMarks 16 = .ok (.iaload, 1) := by decide +kernel
theorem dX4_byMarks_17 : decode cX4_byMarks 17 = .ok (.iconst 1, 1) := by decide +kernel
theorem dX4_byMarks_18 : decode cX4_byMarks 18 = .ok (.iand, 1) := by decide +kernel
theorem dX4_byMarks_19 : decode cX4_byMarks 19 = .ok (.iconst 1, 1) := by decide +kernel
theorem dX4_byMarks_20 : decode cX4_byMarks 20 = .ok (.if_icmp .ne 7, 3) := by decide +kernel
theorem dX4_byMarks_23 : decode cX4_byMarks 23 = .ok (.iconst 1, 1) := by decide +kernel
theorem dX4_byMarks_24 : decode cX4_byMarks 24 = .ok (.goto 4, 3) := by decide +kernel
theorem dX4_byMarks_27 : decode cX4_byMarks 27 = .ok (.iconst 0, 1) := by decide +kernel
theorem dX4_byMarks_28 : decode cX4_byMarks 28 = .ok (.ireturn, 1) := by decide +kernel
theorem dX4_byMarks_29 : decode cX4_byMarks 29 = .ok (.iload_n 2, 1) := by decide +kernel
theorem dX4_byMarks_30 : decode cX4_byMarks 30 = .ok (.iconst 2, 1) := by decide +kernel
theorem dX4_byMarks_31 : decode cX4_byMarks 31 = .ok (.if_icmp .eq 8, 3) := by decide +kernel
theorem dX4_byMarks_34 : decode cX4_byMarks 34 = .ok (.iload_n 2, 1) := by decide +kernel
theorem dX4_byMarks_35 : decode cX4_byMarks 35 = .ok (.iconst 4, 1) := by decide +kernel
theorem dX4_byMarks_36 : decode cX4_byMarks 36 = .ok (.if_icmp .ne 21, 3) := by decide +kernel
theorem dX4_byMarks_39 : decode cX4_byMarks 39 = .ok (.aload_n 0, 1) := by decide +kernel
theorem dX4_byMarks_40 : decode cX4_byMarks 40 = .ok (.getfield 23, 3) := by decide +kernel
theorem dX4_byMarks_43 : decode cX4_byMarks 43 = .ok (.iload_n 1, 1) := by decide +kernel
theorem dX4_byMarks_44 : decode cX4_byMarks 44 = .ok (.iaload, 1) := by decide +kernel
theorem dX4_byMarks_45 : decode cX4_byMarks 45 = .ok (.iconst 2, 1) := by decide +kernel
theorem dX4_byMarks_46 : decode cX4_byMarks 46 = .ok (.iand, 1) := by decide +kernel
theorem dX4_byMarks_47 : decode cX4_byMarks 47 = .ok (.iconst 2, 1) := by decide +kernel
theorem dX4_byMarks_48 : decode cX4_byMarks 48 = .ok (.if_icmp .ne 7, 3) := by decide +kernel
theorem dX4_byMarks_51 : decode cX4_byMarks 51 = .ok (.iconst 1, 1) := by decide +kernel
theorem dX4_byMarks_52 : decode cX4_byMarks 52 = .ok (.goto 4, 3) := by decide +kernel
theorem dX4_byMarks_55 : decode cX4_byMarks 55 = .ok (.iconst 0, 1) := by decide +kernel
theorem dX4_byMarks_56 : decode cX4_byMarks 56 = .ok (.ireturn, 1) := by decide +kernel
theorem dX4_byMarks_57 : decode cX4_byMarks 57 = .ok (.aload_n 0, 1) := by decide +kernel
theorem dX4_byMarks_58 : decode cX4_byMarks 58 = .ok (.getfield 23, 3) := by decide +kernel
theorem dX4_byMarks_61 : decode cX4_byMarks 61 = .ok (.iload_n 1, 1) := by decide +kernel
theorem dX4_byMarks_62 : decode cX4_byMarks 62 = .ok (.iaload, 1) := by decide +kernel
theorem dX4_byMarks_63 : decode cX4_byMarks 63 = .ok (.iconst 3, 1) := by decide +kernel
theorem dX4_byMarks_64 : decode cX4_byMarks 64 = .ok (.if_icmp .ne 7, 3) := by decide +kernel
theorem dX4_byMarks_67 : decode cX4_byMarks 67 = .ok (.iconst 1, 1) := by decide +kernel
theorem dX4_byMarks_68 : decode cX4_byMarks 68 = .ok (.goto 4, 3) := by decide +kernel
theorem dX4_byMarks_71 : decode cX4_byMarks 71 = .ok (.iconst 0, 1) := by decide +kernel
theorem dX4_byMarks_72 : decode cX4_byMarks 72 = .ok (.ireturn, 1) := by decide +kernel
theorem dX4_let_0 : decode cX4_let 0 = .ok (.aload_n 0, 1) := by decide +kernel
theorem dX4_let_1 : decode cX4_let 1 = .ok (.iload_n 1, 1) := by decide +kernel
theorem dX4_let_2 : decode cX4_let 2 = .ok (.iload_n 2, 1) := by decide +kernel
theorem dX4_let_3 : decode cX4_let 3 = .ok (.invokevirtual 131, 3) := by decide +kernel
theorem dX4_let_6 : decode cX4_let 6 = .ok (.ifCond .ne 5, 3) := by decide +kernel
theorem dX4_let_9 : decode cX4_let 9 = .ok (.iconst 0, 1) := by decide +kernel
theorem dX4_let_10 : decode cX4_let 10 = .ok (.ireturn, 1) := by decide +kernel
theorem dX4_let_11 : decode cX4_let 11 = .ok (.iconst 0, 1) := by decide +kernel
theorem dX4_let_12 : decode cX4_let 12 = .ok (.istore_n 3, 1) := by decide +kernel
theorem dX4_let_13 : decode cX4_let 13 = .ok (.iload_n 3, 1) := by decide +kernel
theorem dX4_let_14 : decode cX4_let 14 = .ok (.iload_n 2, 1) := by decide +kernel
theorem dX4_let_15 : decode cX4_let 15 = .ok (.if_icmp .ge 70, 3) := by decide +kernel
theorem dX4_let_18 : decode cX4_let 18 = .ok (.aload_n 0, 1) := by decide +kernel
theorem dX4_let_19 : decode cX4_let 19 = .ok (.iload_n 1, 1) := by decide +kernel
theorem dX4_let_20 : decode cX4_let 20 = .ok (.iload_n 3, 1) := by decide +kernel
theorem dX4_let_21 : decode cX4_let 21 = .ok (.invokevirtual 131, 3) := by decide +kernel
theorem dX4_let_24 : decode cX4_let 24 = .ok (.istore 4, 2) := by decide +kernel
theorem dX4_let_26 : decode cX4_let 26 = .ok (.iconst 0, 1) := by decide +kernel
theorem dX4_let_27 : decode cX4_let 27 = .ok (.istore 5, 2) := by decide +kernel
theorem dX4_let_29 : decode cX4_let 29 = .ok (.iload 5, 2) := by decide +kernel
theorem dX4_let_31 : decode cX4_let 31 = .ok (.iconst 3, 1) := by decide +kernel
theorem dX4_let_32 : decode cX4_let 32 = .ok (.if_icmp .ge 40, 3) := by decide +kernel
theorem dX4_let_35 : decode cX4_let 35 = .ok (.iload 4, 2) := by decide +kernel
theorem dX4_let_37 : decode cX4_let 37 = .ok (.ifCond .eq 26, 3) := by decide +kernel
theorem dX4_let_40 : decode cX4_let 40 = .ok (.aload_n 0, 1) := by decide +kernel
theorem dX4_let_41 : decode cX4_let 41 = .ok (.iload_n 1, 1) := by decide +kernel
theorem dX4_let_42 : decode cX4_let 42 = .ok (.iload_n 3, 1) := by decide +kernel
theorem dX4_let_43 : decode cX4_let 43 = .ok (.iload 5, 2) := by decide +kernel
theorem dX4_let_45 : decode cX4_let 45 = .ok (.invokevirtual 135, 3) := by decide +kernel
theorem dX4_let_48 : decode cX4_let 48 = .ok (.aload_n 0, 1) := by decide +kernel
theorem dX4_let_49 : decode cX4_let 49 = .ok (.iload_n 1, 1) := by decide +kernel
theorem dX4_let_50 : decode cX4_let 50 = .ok (.iload_n 2, 1) := by decide +kernel
theorem dX4_let_51 : decode cX4_let 51 = .ok (.iload 5, 2) := by decide +kernel
theorem dX4_let_53 : decode cX4_let 53 = .ok (.invokevirtual 135, 3) := by decide +kernel
theorem dX4_let_56 : decode cX4_let 56 = .ok (.if_icmp .ne 7, 3) := by decide +kernel
theorem dX4_let_59 : decode cX4_let 59 = .ok (.iconst 1, 1) := by decide +kernel
theorem dX4_let_60 : decode cX4_let 60 = .ok (.goto 4, 3) := by decide +kernel
theorem dX4_let_63 : decode cX4_let 63 = .ok (.iconst 0, 1) := by decide +kernel
theorem dX4_let_64 : decode cX4_let 64 = .ok (.istore 4, 2) := by decide +kernel
theorem dX4_let_66 : decode cX4_let 66 = .ok (.iinc 5 1, 3) := by decide +kernel
theorem dX4_let_69 : decode cX4_let 69 = .ok (.goto (-40), 3) := by decide +kernel
theorem dX4_let_72 : decode cX4_let 72 = .ok (.iload 4, 2) := by decide +kernel
theorem dX4_let_74 : decode cX4_let 74 = .ok (.ifCond .eq 5, 3) := by decide +kernel
theorem dX4_let_77 : decode cX4_let 77 = .ok (.iconst 0, 1) := by decide +kernel
theorem dX4_let_78 : decode cX4_let 78 = .ok (.ireturn, 1) := by decide +kernel
theorem dX4_let_79 : decode cX4_let 79 = .ok (.iinc 3 1, 3) := by decide +kernel
theorem dX4_let_82 : decode cX4_let 82 = .ok (.goto (-69), 3) := by decide +kernel
theorem dX4_let_85 : decode cX4_let 85 = .ok (.iconst 1, 1) := by decide +kernel
theorem dX4_let_86 : decode cX4_let 86 = .ok (.ireturn, 1) := by decide +kernel
theorem dX4_stand_0 : decode cX4_stand 0 = .ok (.aload_n 0, 1) := by decide +kernel
theorem dX4_stand_1 : decode cX4_stand 1 = .ok (.getfield 41, 3) := by decide +kernel
theorem dX4_stand_4 : decode cX4_stand 4 = .ok (.iload_n 1, 1) := by decide +kernel
theorem dX4_stand_5 : decode cX4_stand 5 = .ok (.iload_n 2, 1) := by decide +kernel
theorem dX4_stand_6 : decode cX4_stand 6 = .ok (.iastore, 1) := by decide +kernel
theorem dX4_stand_7 : decode cX4_stand 7 = .ok (.aload_n 0, 1) := by decide +kernel
theorem dX4_stand_8 : decode cX4_stand 8 = .ok (.getfield 44, 3) := by decide +kernel
theorem dX4_stand_11 : decode cX4_stand 11 = .ok (.iload_n 1, 1) := by decide +kernel
theorem dX4_stand_12 : decode cX4_stand 12 = .ok (.iload_n 3, 1) := by decide +kernel
theorem dX4_stand_13 : decode cX4_stand 13 = .ok (.iastore, 1) := by decide +kernel
theorem dX4_stand_14 : decode cX4_stand 14 = .ok (.aload_n 0, 1) := by decide +kernel
theorem dX4_stand_15 : decode cX4_stand 15 = .ok (.getfield 47, 3) := by decide +kernel
theorem dX4_stand_18 : decode cX4_stand 18 = .ok (.iload_n 1, 1) := by decide +kernel
theorem dX4_stand_19 : decode cX4_stand 19 = .ok (.iload 4, 2) := by decide +kernel
theorem dX4_stand_21 : decode cX4_stand 21 = .ok (.iastore, 1) := by decide +kernel
theorem dX4_stand_22 : decode cX4_stand 22 = .ok (.aload_n 0, 1) := by decide +kernel
theorem dX4_stand_23 : decode cX4_stand 23 = .ok (.getfield 50, 3) := by decide +kernel
theorem dX4_stand_26 : decode cX4_stand 26 = .ok (.iload_n 1, 1) := by decide +kernel
theorem dX4_stand_27 : decode cX4_stand 27 = .ok (.iload 5, 2) := by decide +kernel
theorem dX4_stand_29 : decode cX4_stand 29 = .ok (.iastore, 1) := by decide +kernel
theorem dX4_stand_30 : decode cX4_stand 30 = .ok (.aload_n 0, 1) := by decide +kernel
theorem dX4_stand_31 : decode cX4_stand 31 = .ok (.getfield 53, 3) := by decide +kernel
theorem dX4_stand_34 : decode cX4_stand 34 = .ok (.iload_n 1, 1) := by decide +kernel
theorem dX4_stand_35 : decode cX4_stand 35 = .ok (.aload_n 0, 1) := by decide +kernel
theorem dX4_stand_36 : decode cX4_stand 36 = .ok (.iload_n 1, 1) := by decide +kernel
theorem dX4_stand_37 : decode cX4_stand 37 = .ok (.iload_n 2, 1) := by decide +kernel
theorem dX4_stand_38 : decode cX4_stand 38 = .ok (.iconst 0, 1) := by decide +kernel
theorem dX4_stand_39 : decode cX4_stand 39 = .ok (.invokevirtual 135, 3) := by decide +kernel
theorem dX4_stand_42 : decode cX4_stand 42 = .ok (.iastore, 1) := by decide +kernel
theorem dX4_stand_43 : decode cX4_stand 43 = .ok (.aload_n 0, 1) := by decide +kernel
theorem dX4_stand_44 : decode cX4_stand 44 = .ok (.getfield 56, 3) := by decide +kernel
theorem dX4_stand_47 : decode cX4_stand 47 = .ok (.iload_n 1, 1) := by decide +kernel
theorem dX4_stand_48 : decode cX4_stand 48 = .ok (.aload_n 0, 1) := by decide +kernel
theorem dX4_stand_49 : decode cX4_stand 49 = .ok (.iload_n 1, 1) := by decide +kernel
theorem dX4_stand_50 : decode cX4_stand 50 = .ok (.iload_n 2, 1) := by decide +kernel
theorem dX4_stand_51 : decode cX4_stand 51 = .ok (.iconst 1, 1) := by decide +kernel
theorem dX4_stand_52 : decode cX4_stand 52 = .ok (.invokevirtual 135, 3) := by decide +kernel
theorem dX4_stand_55 : decode cX4_stand 55 = .ok (.iastore, 1) := by decide +kernel
theorem dX4_stand_56 : decode cX4_stand 56 = .ok (.aload_n 0, 1) := by decide +kernel
theorem dX4_stand_57 : decode cX4_stand 57 = .ok (.getfield 59, 3) := by decide +kernel
theorem dX4_stand_60 : decode cX4_stand 60 = .ok (.iload_n 1, 1) := by decide +kernel
theorem dX4_stand_61 : decode cX4_stand 61 = .ok (.aload_n 0, 1) := by decide +kernel
theorem dX4_stand_62 : decode cX4_stand 62 = .ok (.iload_n 1, 1) := by decide +kernel
theorem dX4_stand_63 : decode cX4_stand 63 = .ok (.iload_n 2, 1) := by decide +kernel
theorem dX4_stand_64 : decode cX4_stand 64 = .ok (.iconst 2, 1) := by decide +kernel
theorem dX4_stand_65 : decode cX4_stand 65 = .ok (.invokevirtual 135, 3) := by decide +kernel
theorem dX4_stand_68 : decode cX4_stand 68 = .ok (.iastore, 1) := by decide +kernel
theorem dX4_stand_69 : decode cX4_stand 69 = .ok (.return_, 1) := by decide +kernel
theorem dX4_common_0 : decode cX4_common 0 = .ok (.iload_n 0, 1) := by decide +kernel
theorem dX4_common_1 : decode cX4_common 1 = .ok (.iload_n 2, 1) := by decide +kernel
theorem dX4_common_2 : decode cX4_common 2 = .ok (.if_icmp .le 7, 3) := by decide +kernel
theorem dX4_common_5 : decode cX4_common 5 = .ok (.iload_n 0, 1) := by decide +kernel
theorem dX4_common_6 : decode cX4_common 6 = .ok (.goto 4, 3) := by decide +kernel
theorem dX4_common_9 : decode cX4_common 9 = .ok (.iload_n 2, 1) := by decide +kernel
theorem dX4_common_10 : decode cX4_common 10 = .ok (.istore 4, 2) := by decide +kernel
theorem dX4_common_12 : decode cX4_common 12 = .ok (.iload_n 0, 1) := by decide +kernel
theorem dX4_common_13 : decode cX4_common 13 = .ok (.iload_n 1, 1) := by decide +kernel
theorem dX4_common_14 : decode cX4_common 14 = .ok (.iadd, 1) := by decide +kernel
theorem dX4_common_15 : decode cX4_common 15 = .ok (.iload_n 2, 1) := by decide +kernel
theorem dX4_common_16 : decode cX4_common 16 = .ok (.iload_n 3, 1) := by decide +kernel
theorem dX4_common_17 : decode cX4_common 17 = .ok (.iadd, 1) := by decide +kernel
theorem dX4_common_18 : decode cX4_common 18 = .ok (.if_icmp .ge 9, 3) := by decide +kernel
theorem dX4_common_21 : decode cX4_common 21 = .ok (.iload_n 0, 1) := by decide +kernel
theorem dX4_common_22 : decode cX4_common 22 = .ok (.iload_n 1, 1) := by decide +kernel
theorem dX4_common_23 : decode cX4_common 23 = .ok (.iadd, 1) := by decide +kernel
theorem dX4_common_24 : decode cX4_common 24 = .ok (.goto 6, 3) := by decide +kernel
theorem dX4_common_27 : decode cX4_common 27 = .ok (.iload_n 2, 1) := by decide +kernel
theorem dX4_common_28 : decode cX4_common 28 = .ok (.iload_n 3, 1) := by decide +kernel
theorem dX4_common_29 : decode cX4_common 29 = .ok (.iadd, 1) := by decide +kernel
theorem dX4_common_30 : decode cX4_common 30 = .ok (.istore 5, 2) := by decide +kernel
theorem dX4_common_32 : decode cX4_common 32 = .ok (.iload 5, 2) := by decide +kernel
theorem dX4_common_34 : decode cX4_common 34 = .ok (.iload 4, 2) := by decide +kernel
theorem dX4_common_36 : decode cX4_common 36 = .ok (.if_icmp .le 11, 3) := by decide +kernel
theorem dX4_common_39 : decode cX4_common 39 = .ok (.iload 5, 2) := by decide +kernel
theorem dX4_common_41 : decode cX4_common 41 = .ok (.iload 4, 2) := by decide +kernel
theorem dX4_common_43 : decode cX4_common 43 = .ok (.isub, 1) := by decide +kernel
theorem dX4_common_44 : decode cX4_common 44 = .ok (.goto 4, 3) := by decide +kernel
theorem dX4_common_47 : decode cX4_common 47 = .ok (.iconst 0, 1) := by decide +kernel
theorem dX4_common_48 : decode cX4_common 48 = .ok (.ireturn, 1) := by decide +kernel
theorem dX4_area_0 : decode cX4_area 0 = .ok (.aload_n 0, 1) := by decide +kernel
theorem dX4_area_1 : decode cX4_area 1 = .ok (.getfield 44, 3) := by decide +kernel
theorem dX4_area_4 : decode cX4_area 4 = .ok (.iload_n 1, 1) := by decide +kernel
theorem dX4_area_5 : decode cX4_area 5 = .ok (.iaload, 1) := by decide +kernel
theorem dX4_area_6 : decode cX4_area 6 = .ok (.aload_n 0, 1) := by decide +kernel
theorem dX4_area_7 : decode cX4_area 7 = .ok (.getfield 53, 3) := by decide +kernel
theorem dX4_area_10 : decode cX4_area 10 = .ok (.iload_n 1, 1) := by decide +kernel
theorem dX4_area_11 : decode cX4_area 11 = .ok (.iaload, 1) := by decide +kernel
theorem dX4_area_12 : decode cX4_area 12 = .ok (.aload_n 0, 1) := by decide +kernel
theorem dX4_area_13 : decode cX4_area 13 = .ok (.getfield 44, 3) := by decide +kernel
theorem dX4_area_16 : decode cX4_area 16 = .ok (.iload_n 2, 1) := by decide +kernel
theorem dX4_area_17 : decode cX4_area 17 = .ok (.iaload, 1) := by decide +kernel
theorem dX4_area_18 : decode cX4_area 18 = .ok (.aload_n 0, 1) := by decide +kernel
theorem dX4_area_19 : decode cX4_area 19 = .ok (.getfield 53, 3) := by decide +kernel
theorem dX4_area_22 : decode cX4_area 22 = .ok (.iload_n 2, 1) := by decide +kernel
theorem dX4_area_23 : decode cX4_area 23 = .ok (.iaload, 1) := by decide +kernel
theorem dX4_area_24 : decode cX4_area 24 = .ok (.invokestatic 139, 3) := by decide +kernel
theorem dX4_area_27 : decode cX4_area 27 = .ok (.aload_n 0, 1) := by decide +kernel
theorem dX4_area_28 : decode cX4_area 28 = .ok (.getfield 47, 3) := by decide +kernel
theorem dX4_area_31 : decode cX4_area 31 = .ok (.iload_n 1, 1) := by decide +kernel
theorem dX4_area_32 : decode cX4_area 32 = .ok (.iaload, 1) := by decide +kernel
theorem dX4_area_33 : decode cX4_area 33 = .ok (.aload_n 0, 1) := by decide +kernel
theorem dX4_area_34 : decode cX4_area 34 = .ok (.getfield 56, 3) := by decide +kernel
theorem dX4_area_37 : decode cX4_area 37 = .ok (.iload_n 1, 1) := by decide +kernel
theorem dX4_area_38 : decode cX4_area 38 = .ok (.iaload, 1) := by decide +kernel
theorem dX4_area_39 : decode cX4_area 39 = .ok (.aload_n 0, 1) := by decide +kernel
theorem dX4_area_40 : decode cX4_area 40 = .ok (.getfield 47, 3) := by decide +kernel
theorem dX4_area_43 : decode cX4_area 43 = .ok (.iload_n 2, 1) := by decide +kernel
theorem dX4_area_44 : decode cX4_area 44 = .ok (.iaload, 1) := by decide +kernel
theorem dX4_area_45 : decode cX4_area 45 = .ok (.aload_n 0, 1) := by decide +kernel
theorem dX4_area_46 : decode cX4_area 46 = .ok (.getfield 56, 3) := by decide +kernel
theorem dX4_area_49 : decode cX4_area 49 = .ok (.iload_n 2, 1) := by decide +kernel
theorem dX4_area_50 : decode cX4_area 50 = .ok (.iaload, 1) := by decide +kernel
theorem dX4_area_51 : decode cX4_area 51 = .ok (.invokestatic 139, 3) := by decide +kernel
theorem dX4_area_54 : decode cX4_area 54 = .ok (.imul, 1) := by decide +kernel
theorem dX4_area_55 : decode cX4_area 55 = .ok (.ireturn, 1) := by decide +kernel
theorem dX4_standsOn_0 : decode cX4_standsOn 0 = .ok (.iload_n 1, 1) := by decide +kernel
theorem dX4_standsOn_1 : decode cX4_standsOn 1 = .ok (.iload_n 2, 1) := by decide +kernel
theorem dX4_standsOn_2 : decode cX4_standsOn 2 = .ok (.if_icmp .eq 56, 3) := by decide +kernel
theorem dX4_standsOn_5 : decode cX4_standsOn 5 = .ok (.aload_n 0, 1) := by decide +kernel
theorem dX4_standsOn_6 : decode cX4_standsOn 6 = .ok (.getfield 41, 3) := by decide +kernel
theorem dX4_standsOn_9 : decode cX4_standsOn 9 = .ok (.iload_n 1, 1) := by decide +kernel
theorem dX4_standsOn_10 : decode cX4_standsOn 10 = .ok (.iaload, 1) := by decide +kernel
theorem dX4_standsOn_11 : decode cX4_standsOn 11 = .ok (.ifCond .lt 47, 3) := by decide +kernel
theorem dX4_standsOn_14 : decode cX4_standsOn 14 = .ok (.aload_n 0, 1) := by decide +kernel
theorem dX4_standsOn_15 : decode cX4_standsOn 15 = .ok (.getfield 41, 3) := by decide +kernel
theorem dX4_standsOn_18 : decode cX4_standsOn 18 = .ok (.iload_n 2, 1) := by decide +kernel
theorem dX4_standsOn_19 : decode cX4_standsOn 19 = .ok (.iaload, 1) := by decide +kernel
theorem dX4_standsOn_20 : decode cX4_standsOn 20 = .ok (.ifCond .lt 38, 3) := by decide +kernel
theorem dX4_standsOn_23 : decode cX4_standsOn 23 = .ok (.aload_n 0, 1) := by decide +kernel
theorem dX4_standsOn_24 : decode cX4_standsOn 24 = .ok (.getfield 50, 3) := by decide +kernel
theorem dX4_standsOn_27 : decode cX4_standsOn 27 = .ok (.iload_n 1, 1) := by decide +kernel
theorem dX4_standsOn_28 : decode cX4_standsOn 28 = .ok (.iaload, 1) := by decide +kernel
theorem dX4_standsOn_29 : decode cX4_standsOn 29 = .ok (.aload_n 0, 1) := by decide +kernel
theorem dX4_standsOn_30 : decode cX4_standsOn 30 = .ok (.getfield 50, 3) := by decide +kernel
theorem dX4_standsOn_33 : decode cX4_standsOn 33 = .ok (.iload_n 2, 1) := by decide +kernel
theorem dX4_standsOn_34 : decode cX4_standsOn 34 = .ok (.iaload, 1) := by decide +kernel
theorem dX4_standsOn_35 : decode cX4_standsOn 35 = .ok (.aload_n 0, 1) := by decide +kernel
theorem dX4_standsOn_36 : decode cX4_standsOn 36 = .ok (.getfield 59, 3) := by decide +kernel
theorem dX4_standsOn_39 : decode cX4_standsOn 39 = .ok (.iload_n 2, 1) := by decide +kernel
theorem dX4_standsOn_40 : decode cX4_standsOn 40 = .ok (.iaload, 1) := by decide +kernel
theorem dX4_standsOn_41 : decode cX4_standsOn 41 = .ok (.iadd, 1) := by decide +kernel
theorem dX4_standsOn_42 : decode cX4_standsOn 42 = .ok (.if_icmp .ne 16, 3) := by decide +kernel
theorem dX4_standsOn_45 : decode cX4_standsOn 45 = .ok (.aload_n 0, 1) := by decide +kernel
theorem dX4_standsOn_46 : decode cX4_standsOn 46 = .ok (.iload_n 1, 1) := by decide +kernel
theorem dX4_standsOn_47 : decode cX4_standsOn 47 = .ok (.iload_n 2, 1) := by decide +kernel
theorem dX4_standsOn_48 : decode cX4_standsOn 48 = .ok (.invokevirtual 143, 3) := by decide +kernel
theorem dX4_standsOn_51 : decode cX4_standsOn 51 = .ok (.ifCond .le 7, 3) := by decide +kernel
theorem dX4_standsOn_54 : decode cX4_standsOn 54 = .ok (.iconst 1, 1) := by decide +kernel
theorem dX4_standsOn_55 : decode cX4_standsOn 55 = .ok (.goto 4, 3) := by decide +kernel
theorem dX4_standsOn_58 : decode cX4_standsOn 58 = .ok (.iconst 0, 1) := by decide +kernel
theorem dX4_standsOn_59 : decode cX4_standsOn 59 = .ok (.ireturn, 1) := by decide +kernel
theorem dX4_supportOf_0 : decode cX4_supportOf 0 = .ok (.aload_n 0, 1) := by decide +kernel
theorem dX4_supportOf_1 : decode cX4_supportOf 1 = .ok (.getfield 50, 3) := by decide +kernel
theorem dX4_supportOf_4 : decode cX4_supportOf 4 = .ok (.iload_n 1, 1) := by decide +kernel
theorem dX4_supportOf_5 : decode cX4_supportOf 5 = .ok (.iaload, 1) := by decide +kernel
theorem dX4_supportOf_6 : decode cX4_supportOf 6 = .ok (.ifCond .ne 17, 3) := by decide +kernel
theorem dX4_supportOf_9 : decode cX4_supportOf 9 = .ok (.aload_n 0, 1) := by decide +kernel
theorem dX4_supportOf_10 : decode cX4_supportOf 10 = .ok (.getfield 53, 3) := by decide +kernel
theorem dX4_supportOf_13 : decode cX4_supportOf 13 = .ok (.iload_n 1, 1) := by decide +kernel
theorem dX4_supportOf_14 : decode cX4_supportOf 14 = .ok (.iaload, 1) := by decide +kernel
theorem dX4_supportOf_15 : decode cX4_supportOf 15 = .ok (.aload_n 0, 1) := by decide +kernel
theorem dX4_supportOf_16 : decode cX4_supportOf 16 = .ok (.getfield 56, 3) := by decide +kernel
theorem dX4_supportOf_19 : decode cX4_supportOf 19 = .ok (.iload_n 1, 1) := by decide +kernel
theorem dX4_supportOf_20 : decode cX4_supportOf 20 = .ok (.iaload, 1) := by decide +kernel
theorem dX4_supportOf_21 : decode cX4_supportOf 21 = .ok (.imul, 1) := by decide +kernel
theorem dX4_supportOf_22 : decode cX4_supportOf 22 = .ok (.ireturn, 1) := by decide +kernel
theorem dX4_supportOf_23 : decode cX4_supportOf 23 = .ok (.iconst 0, 1) := by decide +kernel
theorem dX4_supportOf_24 : decode cX4_supportOf 24 = .ok (.istore_n 2, 1) := by decide +kernel
theorem dX4_supportOf_25 : decode cX4_supportOf 25 = .ok (.iconst 0, 1) := by decide +kernel
theorem dX4_supportOf_26 : decode cX4_supportOf 26 = .ok (.istore_n 3, 1) := by decide +kernel
theorem dX4_supportOf_27 : decode cX4_supportOf 27 = .ok (.iload_n 3, 1) := by decide +kernel
theorem dX4_supportOf_28 : decode cX4_supportOf 28 = .ok (.aload_n 0, 1) := by decide +kernel
theorem dX4_supportOf_29 : decode cX4_supportOf 29 = .ok (.getfield 13, 3) := by decide +kernel
theorem dX4_supportOf_32 : decode cX4_supportOf 32 = .ok (.if_icmp .ge 31, 3) := by decide +kernel
theorem dX4_supportOf_35 : decode cX4_supportOf 35 = .ok (.iload_n 2, 1) := by decide +kernel
theorem dX4_supportOf_36 : decode cX4_supportOf 36 = .ok (.aload_n 0, 1) := by decide +kernel
theorem dX4_supportOf_37 : decode cX4_supportOf 37 = .ok (.iload_n 1, 1) := by decide +kernel
theorem dX4_supportOf_38 : decode cX4_supportOf 38 = .ok (.iload_n 3, 1) := by decide +kernel
theorem dX4_supportOf_39 : decode cX4_supportOf 39 = .ok (.invokevirtual 146, 3) := by decide +kernel
theorem dX4_supportOf_42 : decode cX4_supportOf 42 = .ok (.ifCond .eq 12, 3) := by decide +kernel
theorem dX4_supportOf_45 : decode cX4_supportOf 45 = .ok (.aload_n 0, 1) := by decide +kernel
theorem dX4_supportOf_46 : decode cX4_supportOf 46 = .ok (.iload_n 1, 1) := by decide +kernel
theorem dX4_supportOf_47 : decode cX4_supportOf 47 = .ok (.iload_n 3, 1) := by decide +kernel
theorem dX4_supportOf_48 : decode cX4_supportOf 48 = .ok (.invokevirtual 143, 3) := by decide +kernel
theorem dX4_supportOf_51 : decode cX4_supportOf 51 = .ok (.goto 4, 3) := by decide +kernel
theorem dX4_supportOf_54 : decode cX4_supportOf 54 = .ok (.iconst 0, 1) := by decide +kernel
theorem dX4_supportOf_55 : decode cX4_supportOf 55 = .ok (.iadd, 1) := by decide +kernel
theorem dX4_supportOf_56 : decode cX4_supportOf 56 = .ok (.istore_n 2, 1) := by decide +kernel
theorem dX4_supportOf_57 : decode cX4_supportOf 57 = .ok (.iinc 3 1, 3) := by decide +kernel
theorem dX4_supportOf_60 : decode cX4_supportOf 60 = .ok (.goto (-33), 3) := by decide +kernel
theorem dX4_supportOf_63 : decode cX4_supportOf 63 = .ok (.iload_n 2, 1) := by decide +kernel
theorem dX4_supportOf_64 : decode cX4_supportOf 64 = .ok (.ireturn, 1) := by decide +kernel
theorem dX4_borne_0 : decode cX4_borne 0 = .ok (.iconst 1, 1) := by decide +kernel
theorem dX4_borne_1 : decode cX4_borne 1 = .ok (.iload_n 1, 1) := by decide +kernel
theorem dX4_borne_2 : decode cX4_borne 2 = .ok (.ishl, 1) := by decide +kernel
theorem dX4_borne_3 : decode cX4_borne 3 = .ok (.istore_n 2, 1) := by decide +kernel
theorem dX4_borne_4 : decode cX4_borne 4 = .ok (.iconst 1, 1) := by decide +kernel
theorem dX4_borne_5 : decode cX4_borne 5 = .ok (.istore_n 3, 1) := by decide +kernel
theorem dX4_borne_6 : decode cX4_borne 6 = .ok (.iload_n 3, 1) := by decide +kernel
theorem dX4_borne_7 : decode cX4_borne 7 = .ok (.ifCond .eq 83, 3) := by decide +kernel
theorem dX4_borne_10 : decode cX4_borne 10 = .ok (.iconst 0, 1) := by decide +kernel
theorem dX4_borne_11 : decode cX4_borne 11 = .ok (.istore_n 3, 1) := by decide +kernel
theorem dX4_borne_12 : decode cX4_borne 12 = .ok (.iconst 0, 1) := by decide +kernel
theorem dX4_borne_13 : decode cX4_borne 13 = .ok (.istore 4, 2) := by decide +kernel
theorem dX4_borne_15 : decode cX4_borne 15 = .ok (.iload 4, 2) := by decide +kernel
theorem dX4_borne_17 : decode cX4_borne 17 = .ok (.aload_n 0, 1) := by decide +kernel
theorem dX4_borne_18 : decode cX4_borne 18 = .ok (.getfield 13, 3) := by decide +kernel
theorem dX4_borne_21 : decode cX4_borne 21 = .ok (.if_icmp .ge 66, 3) := by decide +kernel
theorem dX4_borne_24 : decode cX4_borne 24 = .ok (.iconst 0, 1) := by decide +kernel
theorem dX4_borne_25 : decode cX4_borne 25 = .ok (.istore 5, 2) := by decide +kernel
theorem dX4_borne_27 : decode cX4_borne 27 = .ok (.iload 5, 2) := by decide +kernel
theorem dX4_borne_29 : decode cX4_borne 29 = .ok (.aload_n 0, 1) := by decide +kernel
theorem dX4_borne_30 : decode cX4_borne 30 = .ok (.getfield 13, 3) := by decide +kernel
theorem dX4_borne_33 : decode cX4_borne 33 = .ok (.if_icmp .ge 48, 3) := by decide +kernel
theorem dX4_borne_36 : decode cX4_borne 36 = .ok (.iload_n 2, 1) := by decide +kernel
theorem dX4_borne_37 : decode cX4_borne 37 = .ok (.iload 4, 2) := by decide +kernel
theorem dX4_borne_39 : decode cX4_borne 39 = .ok (.ishr, 1) := by decide +kernel
theorem dX4_borne_40 : decode cX4_borne 40 = .ok (.iconst 1, 1) := by decide +kernel
theorem dX4_borne_41 : decode cX4_borne 41 = .ok (.iand, 1) := by decide +kernel
theorem dX4_borne_42 : decode cX4_borne 42 = .ok (.ifCond .ne 33, 3) := by decide +kernel
theorem dX4_borne_45 : decode cX4_borne 45 = .ok (.iload_n 2, 1) := by decide +kernel
theorem dX4_borne_46 : decode cX4_borne 46 = .ok (.iload 5, 2) := by decide +kernel
theorem dX4_borne_48 : decode cX4_borne 48 = .ok (.ishr, 1) := by decide +kernel
theorem dX4_borne_49 : decode cX4_borne 49 = .ok (.iconst 1, 1) := by decide +kernel
theorem dX4_borne_50 : decode cX4_borne 50 = .ok (.iand, 1) := by decide +kernel
theorem dX4_borne_51 : decode cX4_borne 51 = .ok (.iconst 1, 1) := by decide +kernel
theorem dX4_borne_52 : decode cX4_borne 52 = .ok (.if_icmp .ne 23, 3) := by decide +kernel
theorem dX4_borne_55 : decode cX4_borne 55 = .ok (.aload_n 0, 1) := by decide +kernel
theorem dX4_borne_56 : decode cX4_borne 56 = .ok (.iload 4, 2) := by decide +kernel
theorem dX4_borne_58 : decode cX4_borne 58 = .ok (.iload 5, 2) := by decide +kernel
theorem dX4_borne_60 : decode cX4_borne 60 = .ok (.invokevirtual 146, 3) := by decide +kernel
theorem dX4_borne_63 : decode cX4_borne 63 = .ok (.ifCond .eq 12, 3) := by decide +kernel
theorem dX4_borne_66 : decode cX4_borne 66 = .ok (.iload_n 2, 1) := by decide +kernel
theorem dX4_borne_67 : decode cX4_borne 67 = .ok (.iconst 1, 1) := by decide +kernel
theorem dX4_borne_68 : decode cX4_borne 68 = .ok (.iload 4, 2) := by decide +kernel
theorem dX4_borne_70 : decode cX4_borne 70 = .ok (.ishl, 1) := by decide +kernel
theorem dX4_borne_71 : decode cX4_borne 71 = .ok (.ior, 1) := by decide +kernel
theorem dX4_borne_72 : decode cX4_borne 72 = .ok (.istore_n 2, 1) := by decide +kernel
theorem dX4_borne_73 : decode cX4_borne 73 = .ok (.iconst 1, 1) := by decide +kernel
theorem dX4_borne_74 : decode cX4_borne 74 = .ok (.istore_n 3, 1) := by decide +kernel
theorem dX4_borne_75 : decode cX4_borne 75 = .ok (.iinc 5 1, 3) := by decide +kernel
theorem dX4_borne_78 : decode cX4_borne 78 = .ok (.goto (-51), 3) := by decide +kernel
theorem dX4_borne_81 : decode cX4_borne 81 = .ok (.iinc 4 1, 3) := by decide +kernel
theorem dX4_borne_84 : decode cX4_borne 84 = .ok (.goto (-69), 3) := by decide +kernel
theorem dX4_borne_87 : decode cX4_borne 87 = .ok (.goto (-81), 3) := by decide +kernel
theorem dX4_borne_90 : decode cX4_borne 90 = .ok (.iconst 0, 1) := by decide +kernel
theorem dX4_borne_91 : decode cX4_borne 91 = .ok (.istore 4, 2) := by decide +kernel
theorem dX4_borne_93 : decode cX4_borne 93 = .ok (.iconst 0, 1) := by decide +kernel
theorem dX4_borne_94 : decode cX4_borne 94 = .ok (.istore 5, 2) := by decide +kernel
theorem dX4_borne_96 : decode cX4_borne 96 = .ok (.iload 5, 2) := by decide +kernel
theorem dX4_borne_98 : decode cX4_borne 98 = .ok (.aload_n 0, 1) := by decide +kernel
theorem dX4_borne_99 : decode cX4_borne 99 = .ok (.getfield 13, 3) := by decide +kernel
theorem dX4_borne_102 : decode cX4_borne 102 = .ok (.if_icmp .ge 41, 3) := by decide +kernel
theorem dX4_borne_105 : decode cX4_borne 105 = .ok (.iload 4, 2) := by decide +kernel
theorem dX4_borne_107 : decode cX4_borne 107 = .ok (.iload 5, 2) := by decide +kernel
theorem dX4_borne_109 : decode cX4_borne 109 = .ok (.iload_n 1, 1) := by decide +kernel
theorem dX4_borne_110 : decode cX4_borne 110 = .ok (.if_icmp .eq 23, 3) := by decide +kernel
theorem dX4_borne_113 : decode cX4_borne 113 = .ok (.iload_n 2, 1) := by decide +kernel
theorem dX4_borne_114 : decode cX4_borne 114 = .ok (.iload 5, 2) := by decide +kernel
theorem dX4_borne_116 : decode cX4_borne 116 = .ok (.ishr, 1) := by decide +kernel
theorem dX4_borne_117 : decode cX4_borne 117 = .ok (.iconst 1, 1) := by decide +kernel
theorem dX4_borne_118 : decode cX4_borne 118 = .ok (.iand, 1) := by decide +kernel
theorem dX4_borne_119 : decode cX4_borne 119 = .ok (.iconst 1, 1) := by decide +kernel
theorem dX4_borne_120 : decode cX4_borne 120 = .ok (.if_icmp .ne 13, 3) := by decide +kernel
theorem dX4_borne_123 : decode cX4_borne 123 = .ok (.aload_n 0, 1) := by decide +kernel
theorem dX4_borne_124 : decode cX4_borne 124 = .ok (.getfield 20, 3) := by decide +kernel
theorem dX4_borne_127 : decode cX4_borne 127 = .ok (.iload 5, 2) := by decide +kernel
theorem dX4_borne_129 : decode cX4_borne 129 = .ok (.iaload, 1) := by decide +kernel
theorem dX4_borne_130 : decode cX4_borne 130 = .ok (.goto 4, 3) := by decide +kernel
theorem dX4_borne_133 : decode cX4_borne 133 = .ok (.iconst 0, 1) := by decide +kernel
theorem dX4_borne_134 : decode cX4_borne 134 = .ok (.iadd, 1) := by decide +kernel
theorem dX4_borne_135 : decode cX4_borne 135 = .ok (.istore 4, 2) := by decide +kernel
theorem dX4_borne_137 : decode cX4_borne 137 = .ok (.iinc 5 1, 3) := by decide +kernel
theorem dX4_borne_140 : decode cX4_borne 140 = .ok (.goto (-44), 3) := by decide +kernel
theorem dX4_borne_143 : decode cX4_borne 143 = .ok (.iload 4, 2) := by decide +kernel
theorem dX4_borne_145 : decode cX4_borne 145 = .ok (.ireturn, 1) := by decide +kernel
theorem dX4_isPlan_0 : decode cX4_isPlan 0 = .ok (.iconst 0, 1) := by decide +kernel
theorem dX4_isPlan_1 : decode cX4_isPlan 1 = .ok (.istore_n 1, 1) := by decide +kernel
theorem dX4_isPlan_2 : decode cX4_isPlan 2 = .ok (.iload_n 1, 1) := by decide +kernel
theorem dX4_isPlan_3 : decode cX4_isPlan 3 = .ok (.aload_n 0, 1) := by decide +kernel
theorem dX4_isPlan_4 : decode cX4_isPlan 4 = .ok (.getfield 13, 3) := by decide +kernel
theorem dX4_isPlan_7 : decode cX4_isPlan 7 = .ok (.if_icmp .ge 199, 3) := by decide +kernel
theorem dX4_isPlan_10 : decode cX4_isPlan 10 = .ok (.aload_n 0, 1) := by decide +kernel
theorem dX4_isPlan_11 : decode cX4_isPlan 11 = .ok (.getfield 41, 3) := by decide +kernel
theorem dX4_isPlan_14 : decode cX4_isPlan 14 = .ok (.iload_n 1, 1) := by decide +kernel
theorem dX4_isPlan_15 : decode cX4_isPlan 15 = .ok (.iaload, 1) := by decide +kernel
theorem dX4_isPlan_16 : decode cX4_isPlan 16 = .ok (.ifCond .lt 184, 3) := by decide +kernel
theorem dX4_isPlan_19 : decode cX4_isPlan 19 = .ok (.aload_n 0, 1) := by decide +kernel
theorem dX4_isPlan_20 : decode cX4_isPlan 20 = .ok (.getfield 44, 3) := by decide +kernel
theorem dX4_isPlan_23 : decode cX4_isPlan 23 = .ok (.iload_n 1, 1) := by decide +kernel
theorem dX4_isPlan_24 : decode cX4_isPlan 24 = .ok (.iaload, 1) := by decide +kernel
theorem dX4_isPlan_25 : decode cX4_isPlan 25 = .ok (.aload_n 0, 1) := by decide +kernel
theorem dX4_isPlan_26 : decode cX4_isPlan 26 = .ok (.getfield 53, 3) := by decide +kernel
theorem dX4_isPlan_29 : decode cX4_isPlan 29 = .ok (.iload_n 1, 1) := by decide +kernel
theorem dX4_isPlan_30 : decode cX4_isPlan 30 = .ok (.iaload, 1) := by decide +kernel
theorem dX4_isPlan_31 : decode cX4_isPlan 31 = .ok (.iadd, 1) := by decide +kernel
theorem dX4_isPlan_32 : decode cX4_isPlan 32 = .ok (.aload_n 0, 1) := by decide +kernel
theorem dX4_isPlan_33 : decode cX4_isPlan 33 = .ok (.getfield 118, 3) := by decide +kernel
theorem dX4_isPlan_36 : decode cX4_isPlan 36 = .ok (.if_icmp .gt 43, 3) := by decide +kernel
theorem dX4_isPlan_39 : decode cX4_isPlan 39 = .ok (.aload_n 0, 1) := by decide +kernel
theorem dX4_isPlan_40 : decode cX4_isPlan 40 = .ok (.getfield 47, 3) := by decide +kernel
theorem dX4_isPlan_43 : decode cX4_isPlan 43 = .ok (.iload_n 1, 1) := by decide +kernel
theorem dX4_isPlan_44 : decode cX4_isPlan 44 = .ok (.iaload, 1) := by decide +kernel
theorem dX4_isPlan_45 : decode cX4_isPlan 45 = .ok (.aload_n 0, 1) := by decide +kernel
theorem dX4_isPlan_46 : decode cX4_isPlan 46 = .ok (.getfield 56, 3) := by decide +kernel
theorem dX4_isPlan_49 : decode cX4_isPlan 49 = .ok (.iload_n 1, 1) := by decide +kernel
theorem dX4_isPlan_50 : decode cX4_isPlan 50 = .ok (.iaload, 1) := by decide +kernel
theorem dX4_isPlan_51 : decode cX4_isPlan 51 = .ok (.iadd, 1) := by decide +kernel
theorem dX4_isPlan_52 : decode cX4_isPlan 52 = .ok (.aload_n 0, 1) := by decide +kernel
theorem dX4_isPlan_53 : decode cX4_isPlan 53 = .ok (.getfield 121, 3) := by decide +kernel
theorem dX4_isPlan_56 : decode cX4_isPlan 56 = .ok (.if_icmp .gt 23, 3) := by decide +kernel
theorem dX4_isPlan_59 : decode cX4_isPlan 59 = .ok (.aload_n 0, 1) := by decide +kernel
theorem dX4_isPlan_60 : decode cX4_isPlan 60 = .ok (.getfield 50, 3) := by decide +kernel
theorem dX4_isPlan_63 : decode cX4_isPlan 63 = .ok (.iload_n 1, 1) := by decide +kernel
theorem dX4_isPlan_64 : decode cX4_isPlan 64 = .ok (.iaload, 1) := by decide +kernel
theorem dX4_isPlan_65 : decode cX4_isPlan 65 = .ok (.aload_n 0, 1) := by decide +kernel
theorem dX4_isPlan_66 : decode cX4_isPlan 66 = .ok (.getfield 59, 3) := by decide +kernel
theorem dX4_isPlan_69 : decode cX4_isPlan 69 = .ok (.iload_n 1, 1) := by decide +kernel
theorem dX4_isPlan_70 : decode cX4_isPlan 70 = .ok (.iaload, 1) := by decide +kernel
theorem dX4_isPlan_71 : decode cX4_isPlan 71 = .ok (.iadd, 1) := by decide +kernel
theorem dX4_isPlan_72 : decode cX4_isPlan 72 = .ok (.aload_n 0, 1) := by decide +kernel
theorem dX4_isPlan_73 : decode cX4_isPlan 73 = .ok (.getfield 124, 3) := by decide +kernel
theorem dX4_isPlan_76 : decode cX4_isPlan 76 = .ok (.if_icmp .le 5, 3) := by decide +kernel
theorem dX4_isPlan_79 : decode cX4_isPlan 79 = .ok (.iconst 0, 1) := by decide +kernel
theorem dX4_isPlan_80 : decode cX4_isPlan 80 = .ok (.ireturn, 1) := by decide +kernel
theorem dX4_isPlan_81 : decode cX4_isPlan 81 = .ok (.aload_n 0, 1) := by decide +kernel
theorem dX4_isPlan_82 : decode cX4_isPlan 82 = .ok (.iload_n 1, 1) := by decide +kernel
theorem dX4_isPlan_83 : decode cX4_isPlan 83 = .ok (.invokevirtual 149, 3) := by decide +kernel
theorem dX4_isPlan_86 : decode cX4_isPlan 86 = .ok (.bipush 100, 2) := by decide +kernel
theorem dX4_isPlan_88 : decode cX4_isPlan 88 = .ok (.imul, 1) := by decide +kernel
theorem dX4_isPlan_89 : decode cX4_isPlan 89 = .ok (.aload_n 0, 1) := by decide +kernel
theorem dX4_isPlan_90 : decode cX4_isPlan 90 = .ok (.getfield 35, 3) := by decide +kernel
theorem dX4_isPlan_93 : decode cX4_isPlan 93 = .ok (.aload_n 0, 1) := by decide +kernel
theorem dX4_isPlan_94 : decode cX4_isPlan 94 = .ok (.getfield 53, 3) := by decide +kernel
theorem dX4_isPlan_97 : decode cX4_isPlan 97 = .ok (.iload_n 1, 1) := by decide +kernel
theorem dX4_isPlan_98 : decode cX4_isPlan 98 = .ok (.iaload, 1) := by decide +kernel
theorem dX4_isPlan_99 : decode cX4_isPlan 99 = .ok (.imul, 1) := by decide +kernel
theorem dX4_isPlan_100 : decode cX4_isPlan 100 = .ok (.aload_n 0, 1) := by decide +kernel
theorem dX4_isPlan_101 : decode cX4_isPlan 101 = .ok (.getfield 56, 3) := by decide +kernel
theorem dX4_isPlan_104 : decode cX4_isPlan 104 = .ok (.iload_n 1, 1) := by decide +kernel
theorem dX4_isPlan_105 : decode cX4_isPlan 105 = .ok (.iaload, 1) := by decide +kernel
theorem dX4_isPlan_106 : decode cX4_isPlan 106 = .ok (.imul, 1) := by decide +kernel
theorem dX4_isPlan_107 : decode cX4_isPlan 107 = .ok (.if_icmp .ge 5, 3) := by decide +kernel
theorem dX4_isPlan_110 : decode cX4_isPlan 110 = .ok (.iconst 0, 1) := by decide +kernel
theorem dX4_isPlan_111 : decode cX4_isPlan 111 = .ok (.ireturn, 1) := by decide +kernel
theorem dX4_isPlan_112 : decode cX4_isPlan 112 = .ok (.aload_n 0, 1) := by decide +kernel
theorem dX4_isPlan_113 : decode cX4_isPlan 113 = .ok (.getfield 26, 3) := by decide +kernel
theorem dX4_isPlan_116 : decode cX4_isPlan 116 = .ok (.iload_n 1, 1) := by decide +kernel
theorem dX4_isPlan_117 : decode cX4_isPlan 117 = .ok (.iaload, 1) := by decide +kernel
theorem dX4_isPlan_118 : decode cX4_isPlan 118 = .ok (.ifCond .lt 19, 3) := by decide +kernel
theorem dX4_isPlan_121 : decode cX4_isPlan 121 = .ok (.aload_n 0, 1) := by decide +kernel
theorem dX4_isPlan_122 : decode cX4_isPlan 122 = .ok (.iload_n 1, 1) := by decide +kernel
theorem dX4_isPlan_123 : decode cX4_isPlan 123 = .ok (.invokevirtual 152, 3) := by decide +kernel
theorem dX4_isPlan_126 : decode cX4_isPlan 126 = .ok (.aload_n 0, 1) := by decide +kernel
theorem dX4_isPlan_127 : decode cX4_isPlan 127 = .ok (.getfield 26, 3) := by decide +kernel
theorem dX4_isPlan_130 : decode cX4_isPlan 130 = .ok (.iload_n 1, 1) := by decide +kernel
theorem dX4_isPlan_131 : decode cX4_isPlan 131 = .ok (.iaload, 1) := by decide +kernel
theorem dX4_isPlan_132 : decode cX4_isPlan 132 = .ok (.if_icmp .le 5, 3) := by decide +kernel
theorem dX4_isPlan_135 : decode cX4_isPlan 135 = .ok (.iconst 0, 1) := by decide +kernel
theorem dX4_isPlan_136 : decode cX4_isPlan 136 = .ok (.ireturn, 1) := by decide +kernel
theorem dX4_isPlan_137 : decode cX4_isPlan 137 = .ok (.iconst 0, 1) := by decide +kernel
theorem dX4_isPlan_138 : decode cX4_isPlan 138 = .ok (.istore_n 2, 1) := by decide +kernel
theorem dX4_isPlan_139 : decode cX4_isPlan 139 = .ok (.iload_n 2, 1) := by decide +kernel
theorem dX4_isPlan_140 : decode cX4_isPlan 140 = .ok (.iload_n 1, 1) := by decide +kernel
theorem dX4_isPlan_141 : decode cX4_isPlan 141 = .ok (.if_icmp .ge 59, 3) := by decide +kernel
theorem dX4_isPlan_144 : decode cX4_isPlan 144 = .ok (.aload_n 0, 1) := by decide +kernel
theorem dX4_isPlan_145 : decode cX4_isPlan 145 = .ok (.getfield 41, 3) := by decide +kernel
theorem dX4_isPlan_148 : decode cX4_isPlan 148 = .ok (.iload_n 2, 1) := by decide +kernel
theorem dX4_isPlan_149 : decode cX4_isPlan 149 = .ok (.iaload, 1) := by decide +kernel
theorem dX4_isPlan_150 : decode cX4_isPlan 150 = .ok (.ifCond .lt 44, 3) := by decide +kernel
theorem dX4_isPlan_153 : decode cX4_isPlan 153 = .ok (.aload_n 0, 1) := by decide +kernel
theorem dX4_isPlan_154 : decode cX4_isPlan 154 = .ok (.iload_n 1, 1) := by decide +kernel
theorem dX4_isPlan_155 : decode cX4_isPlan 155 = .ok (.iload_n 2, 1) := by decide +kernel
theorem dX4_isPlan_156 : decode cX4_isPlan 156 = .ok (.invokevirtual 143, 3) := by decide +kernel
theorem dX4_isPlan_159 : decode cX4_isPlan 159 = .ok (.ifCond .le 35, 3) := by decide +kernel
theorem dX4_isPlan_162 : decode cX4_isPlan 162 = .ok (.aload_n 0, 1) := by decide +kernel
theorem dX4_isPlan_163 : decode cX4_isPlan 163 = .ok (.getfield 50, 3) := by decide +kernel
theorem dX4_isPlan_166 : decode cX4_isPlan 166 = .ok (.iload_n 1, 1) := by decide +kernel
theorem dX4_isPlan_167 : decode cX4_isPlan 167 = .ok (.iaload, 1) := by decide +kernel
theorem dX4_isPlan_168 : decode cX4_isPlan 168 = .ok (.aload_n 0, 1) := by decide +kernel
theorem dX4_isPlan_169 : decode cX4_isPlan 169 = .ok (.getfield 59, 3) := by decide +kernel
theorem dX4_isPlan_172 : decode cX4_isPlan 172 = .ok (.iload_n 1, 1) := by decide +kernel
theorem dX4_isPlan_173 : decode cX4_isPlan 173 = .ok (.iaload, 1) := by decide +kernel
theorem dX4_isPlan_174 : decode cX4_isPlan 174 = .ok (.aload_n 0, 1) := by decide +kernel
theorem dX4_isPlan_175 : decode cX4_isPlan 175 = .ok (.getfield 50, 3) := by decide +kernel
theorem dX4_isPlan_178 : decode cX4_isPlan 178 = .ok (.iload_n 2, 1) := by decide +kernel
theorem dX4_isPlan_179 : decode cX4_isPlan 179 = .ok (.iaload, 1) := by decide +kernel
theorem dX4_isPlan_180 : decode cX4_isPlan 180 = .ok (.aload_n 0, 1) := by decide +kernel
theorem dX4_isPlan_181 : decode cX4_isPlan 181 = .ok (.getfield 59, 3) := by decide +kernel
theorem dX4_isPlan_184 : decode cX4_isPlan 184 = .ok (.iload_n 2, 1) := by decide +kernel
theorem dX4_isPlan_185 : decode cX4_isPlan 185 = .ok (.iaload, 1) := by decide +kernel
theorem dX4_isPlan_186 : decode cX4_isPlan 186 = .ok (.invokestatic 139, 3) := by decide +kernel
theorem dX4_isPlan_189 : decode cX4_isPlan 189 = .ok (.ifCond .le 5, 3) := by decide +kernel
theorem dX4_isPlan_192 : decode cX4_isPlan 192 = .ok (.iconst 0, 1) := by decide +kernel
theorem dX4_isPlan_193 : decode cX4_isPlan 193 = .ok (.ireturn, 1) := by decide +kernel
theorem dX4_isPlan_194 : decode cX4_isPlan 194 = .ok (.iinc 2 1, 3) := by decide +kernel
theorem dX4_isPlan_197 : decode cX4_isPlan 197 = .ok (.goto (-58), 3) := by decide +kernel
theorem dX4_isPlan_200 : decode cX4_isPlan 200 = .ok (.iinc 1 1, 3) := by decide +kernel
theorem dX4_isPlan_203 : decode cX4_isPlan 203 = .ok (.goto (-201), 3) := by decide +kernel
theorem dX4_isPlan_206 : decode cX4_isPlan 206 = .ok (.iconst 1, 1) := by decide +kernel
theorem dX4_isPlan_207 : decode cX4_isPlan 207 = .ok (.ireturn, 1) := by decide +kernel
theorem dX4_volume_0 : decode cX4_volume 0 = .ok (.aload_n 0, 1) := by decide +kernel
theorem dX4_volume_1 : decode cX4_volume 1 = .ok (.getfield 16, 3) := by decide +kernel
theorem dX4_volume_4 : decode cX4_volume 4 = .ok (.iconst 3, 1) := by decide +kernel
theorem dX4_volume_5 : decode cX4_volume 5 = .ok (.iload_n 1, 1) := by decide +kernel
theorem dX4_volume_6 : decode cX4_volume 6 = .ok (.imul, 1) := by decide +kernel
theorem dX4_volume_7 : decode cX4_volume 7 = .ok (.iaload, 1) := by decide +kernel
theorem dX4_volume_8 : decode cX4_volume 8 = .ok (.aload_n 0, 1) := by decide +kernel
theorem dX4_volume_9 : decode cX4_volume 9 = .ok (.getfield 16, 3) := by decide +kernel
theorem dX4_volume_12 : decode cX4_volume 12 = .ok (.iconst 3, 1) := by decide +kernel
theorem dX4_volume_13 : decode cX4_volume 13 = .ok (.iload_n 1, 1) := by decide +kernel
theorem dX4_volume_14 : decode cX4_volume 14 = .ok (.imul, 1) := by decide +kernel
theorem dX4_volume_15 : decode cX4_volume 15 = .ok (.iconst 1, 1) := by decide +kernel
theorem dX4_volume_16 : decode cX4_volume 16 = .ok (.iadd, 1) := by decide +kernel
theorem dX4_volume_17 : decode cX4_volume 17 = .ok (.iaload, 1) := by decide +kernel
theorem dX4_volume_18 : decode cX4_volume 18 = .ok (.imul, 1) := by decide +kernel
theorem dX4_volume_19 : decode cX4_volume 19 = .ok (.aload_n 0, 1) := by decide +kernel
theorem dX4_volume_20 : decode cX4_volume 20 = .ok (.getfield 16, 3) := by decide +kernel
theorem dX4_volume_23 : decode cX4_volume 23 = .ok (.iconst 3, 1) := by decide +kernel
theorem dX4_volume_24 : decode cX4_volume 24 = .ok (.iload_n 1, 1) := by decide +kernel
theorem dX4_volume_25 : decode cX4_volume 25 = .ok (.imul, 1) := by decide +kernel
theorem dX4_volume_26 : decode cX4_volume 26 = .ok (.iconst 2, 1) := by decide +kernel
theorem dX4_volume_27 : decode cX4_volume 27 = .ok (.iadd, 1) := by decide +kernel
theorem dX4_volume_28 : decode cX4_volume 28 = .ok (.iaload, 1) := by decide +kernel
theorem dX4_volume_29 : decode cX4_volume 29 = .ok (.imul, 1) := by decide +kernel
theorem dX4_volume_30 : decode cX4_volume 30 = .ok (.ireturn, 1) := by decide +kernel
theorem dX4_volumeNow_0 : decode cX4_volumeNow 0 = .ok (.iconst 0, 1) := by decide +kernel
theorem dX4_volumeNow_1 : decode cX4_volumeNow 1 = .ok (.istore_n 1, 1) := by decide +kernel
theorem dX4_volumeNow_2 : decode cX4_volumeNow 2 = .ok (.iconst 0, 1) := by decide +kernel
theorem dX4_volumeNow_3 : decode cX4_volumeNow 3 = .ok (.istore_n 2, 1) := by decide +kernel
theorem dX4_volumeNow_4 : decode cX4_volumeNow 4 = .ok (.iload_n 2, 1) := by decide +kernel
theorem dX4_volumeNow_5 : decode cX4_volumeNow 5 = .ok (.aload_n 0, 1) := by decide +kernel
theorem dX4_volumeNow_6 : decode cX4_volumeNow 6 = .ok (.getfield 13, 3) := by decide +kernel
theorem dX4_volumeNow_9 : decode cX4_volumeNow 9 = .ok (.if_icmp .ge 30, 3) := by decide +kernel
theorem dX4_volumeNow_12 : decode cX4_volumeNow 12 = .ok (.iload_n 1, 1) := by decide +kernel
theorem dX4_volumeNow_13 : decode cX4_volumeNow 13 = .ok (.aload_n 0, 1) := by decide +kernel
theorem dX4_volumeNow_14 : decode cX4_volumeNow 14 = .ok (.getfield 41, 3) := by decide +kernel
theorem dX4_volumeNow_17 : decode cX4_volumeNow 17 = .ok (.iload_n 2, 1) := by decide +kernel
theorem dX4_volumeNow_18 : decode cX4_volumeNow 18 = .ok (.iaload, 1) := by decide +kernel
theorem dX4_volumeNow_19 : decode cX4_volumeNow 19 = .ok (.ifCond .lt 11, 3) := by decide +kernel
theorem dX4_volumeNow_22 : decode cX4_volumeNow 22 = .ok (.aload_n 0, 1) := by decide +kernel
theorem dX4_volumeNow_23 : decode cX4_volumeNow 23 = .ok (.iload_n 2, 1) := by decide +kernel
theorem dX4_volumeNow_24 : decode cX4_volumeNow 24 = .ok (.invokevirtual 155, 3) := by decide +kernel
theorem dX4_volumeNow_27 : decode cX4_volumeNow 27 = .ok (.goto 4, 3) := by decide +kernel
theorem dX4_volumeNow_30 : decode cX4_volumeNow 30 = .ok (.iconst 0, 1) := by decide +kernel
theorem dX4_volumeNow_31 : decode cX4_volumeNow 31 = .ok (.iadd, 1) := by decide +kernel
theorem dX4_volumeNow_32 : decode cX4_volumeNow 32 = .ok (.istore_n 1, 1) := by decide +kernel
theorem dX4_volumeNow_33 : decode cX4_volumeNow 33 = .ok (.iinc 2 1, 3) := by decide +kernel
theorem dX4_volumeNow_36 : decode cX4_volumeNow 36 = .ok (.goto (-32), 3) := by decide +kernel
theorem dX4_volumeNow_39 : decode cX4_volumeNow 39 = .ok (.iload_n 1, 1) := by decide +kernel
theorem dX4_volumeNow_40 : decode cX4_volumeNow 40 = .ok (.ireturn, 1) := by decide +kernel
theorem dX4_findOrder_0 : decode cX4_findOrder 0 = .ok (.aload_n 0, 1) := by decide +kernel
theorem dX4_findOrder_1 : decode cX4_findOrder 1 = .ok (.iconst 0, 1) := by decide +kernel
theorem dX4_findOrder_2 : decode cX4_findOrder 2 = .ok (.putfield 87, 3) := by decide +kernel
theorem dX4_findOrder_5 : decode cX4_findOrder 5 = .ok (.iconst 0, 1) := by decide +kernel
theorem dX4_findOrder_6 : decode cX4_findOrder 6 = .ok (.istore_n 1, 1) := by decide +kernel
theorem dX4_findOrder_7 : decode cX4_findOrder 7 = .ok (.iload_n 1, 1) := by decide +kernel
theorem dX4_findOrder_8 : decode cX4_findOrder 8 = .ok (.aload_n 0, 1) := by decide +kernel
theorem dX4_findOrder_9 : decode cX4_findOrder 9 = .ok (.getfield 13, 3) := by decide +kernel
theorem dX4_findOrder_12 : decode cX4_findOrder 12 = .ok (.if_icmp .ge 86, 3) := by decide +kernel
theorem dX4_findOrder_15 : decode cX4_findOrder 15 = .ok (.aload_n 0, 1) := by decide +kernel
theorem dX4_findOrder_16 : decode cX4_findOrder 16 = .ok (.getfield 32, 3) := by decide +kernel
theorem dX4_findOrder_19 : decode cX4_findOrder 19 = .ok (.iload_n 1, 1) := by decide +kernel
theorem dX4_findOrder_20 : decode cX4_findOrder 20 = .ok (.iaload, 1) := by decide +kernel
theorem dX4_findOrder_21 : decode cX4_findOrder 21 = .ok (.ifCond .ge 71, 3) := by decide +kernel
theorem dX4_findOrder_24 : decode cX4_findOrder 24 = .ok (.aload_n 0, 1) := by decide +kernel
theorem dX4_findOrder_25 : decode cX4_findOrder 25 = .ok (.getfield 87, 3) := by decide +kernel
theorem dX4_findOrder_28 : decode cX4_findOrder 28 = .ok (.istore_n 2, 1) := by decide +kernel
theorem dX4_findOrder_29 : decode cX4_findOrder 29 = .ok (.iload_n 2, 1) := by decide +kernel
theorem dX4_findOrder_30 : decode cX4_findOrder 30 = .ok (.ifCond .le 45, 3) := by decide +kernel
theorem dX4_findOrder_33 : decode cX4_findOrder 33 = .ok (.aload_n 0, 1) := by decide +kernel
theorem dX4_findOrder_34 : decode cX4_findOrder 34 = .ok (.getfield 29, 3) := by decide +kernel
theorem dX4_findOrder_37 : decode cX4_findOrder 37 = .ok (.aload_n 0, 1) := by decide +kernel
theorem dX4_findOrder_38 : decode cX4_findOrder 38 = .ok (.getfield 90, 3) := by decide +kernel
theorem dX4_findOrder_41 : decode cX4_findOrder 41 = .ok (.iload_n 2, 1) := by decide +kernel
theorem dX4_findOrder_42 : decode cX4_findOrder 42 = .ok (.iconst 1, 1) := by decide +kernel
theorem dX4_findOrder_43 : decode cX4_findOrder 43 = .ok (.isub, 1) := by decide +kernel
theorem dX4_findOrder_44 : decode cX4_findOrder 44 = .ok (.iaload, 1) := by decide +kernel
theorem dX4_findOrder_45 : decode cX4_findOrder 45 = .ok (.iaload, 1) := by decide +kernel
theorem dX4_findOrder_46 : decode cX4_findOrder 46 = .ok (.aload_n 0, 1) := by decide +kernel
theorem dX4_findOrder_47 : decode cX4_findOrder 47 = .ok (.getfield 29, 3) := by decide +kernel
theorem dX4_findOrder_50 : decode cX4_findOrder 50 = .ok (.iload_n 1, 1) := by decide +kernel
theorem dX4_findOrder_51 : decode cX4_findOrder 51 = .ok (.iaload, 1) := by decide +kernel
theorem dX4_findOrder_52 : decode cX4_findOrder 52 = .ok (.if_icmp .le 23, 3) := by decide +kernel
theorem dX4_findOrder_55 : decode cX4_findOrder 55 = .ok (.aload_n 0, 1) := by decide +kernel
theorem dX4_findOrder_56 : decode cX4_findOrder 56 = .ok (.getfield 90, 3) := by decide +kernel
theorem dX4_findOrder_59 : decode cX4_findOrder 59 = .ok (.iload_n 2, 1) := by decide +kernel
theorem dX4_findOrder_60 : decode cX4_findOrder 60 = .ok (.aload_n 0, 1) := by decide +kernel
theorem dX4_findOrder_61 : decode cX4_findOrder 61 = .ok (.getfield 90, 3) := by decide +kernel
theorem dX4_findOrder_64 : decode cX4_findOrder 64 = .ok (.iload_n 2, 1) := by decide +kernel
theorem dX4_findOrder_65 : decode cX4_findOrder 65 = .ok (.iconst 1, 1) := by decide +kernel
theorem dX4_findOrder_66 : decode cX4_findOrder 66 = .ok (.isub, 1) := by decide +kernel
theorem dX4_findOrder_67 : decode cX4_findOrder 67 = .ok (.iaload, 1) := by decide +kernel
theorem dX4_findOrder_68 : decode cX4_findOrder 68 = .ok (.iastore, 1) := by decide +kernel
theorem dX4_findOrder_69 : decode cX4_findOrder 69 = .ok (.iinc 2 (-1), 3) := by decide +kernel
theorem dX4_findOrder_72 : decode cX4_findOrder 72 = .ok (.goto (-43), 3) := by decide +kernel
theorem dX4_findOrder_75 : decode cX4_findOrder 75 = .ok (.aload_n 0, 1) := by decide +kernel
theorem dX4_findOrder_76 : decode cX4_findOrder 76 = .ok (.getfield 90, 3) := by decide +kernel
theorem dX4_findOrder_79 : decode cX4_findOrder 79 = .ok (.iload_n 2, 1) := by decide +kernel
theorem dX4_findOrder_80 : decode cX4_findOrder 80 = .ok (.iload_n 1, 1) := by decide +kernel
theorem dX4_findOrder_81 : decode cX4_findOrder 81 = .ok (.iastore, 1) := by decide +kernel
theorem dX4_findOrder_82 : decode cX4_findOrder 82 = .ok (.aload_n 0, 1) := by decide +kernel
theorem dX4_findOrder_83 : decode cX4_findOrder 83 = .ok (.dup, 1) := by decide +kernel
theorem dX4_findOrder_84 : decode cX4_findOrder 84 = .ok (.getfield 87, 3) := by decide +kernel
theorem dX4_findOrder_87 : decode cX4_findOrder 87 = .ok (.iconst 1, 1) := by decide +kernel
theorem dX4_findOrder_88 : decode cX4_findOrder 88 = .ok (.iadd, 1) := by decide +kernel
theorem dX4_findOrder_89 : decode cX4_findOrder 89 = .ok (.putfield 87, 3) := by decide +kernel
theorem dX4_findOrder_92 : decode cX4_findOrder 92 = .ok (.iinc 1 1, 3) := by decide +kernel
theorem dX4_findOrder_95 : decode cX4_findOrder 95 = .ok (.goto (-88), 3) := by decide +kernel
theorem dX4_findOrder_98 : decode cX4_findOrder 98 = .ok (.return_, 1) := by decide +kernel
theorem dX4_end_0 : decode cX4_end 0 = .ok (.bipush 56, 2) := by decide +kernel
theorem dX4_end_2 : decode cX4_end 2 = .ok (.iload_n 2, 1) := by decide +kernel
theorem dX4_end_3 : decode cX4_end 3 = .ok (.imul, 1) := by decide +kernel
theorem dX4_end_4 : decode cX4_end 4 = .ok (.bipush 8, 2) := by decide +kernel
theorem dX4_end_6 : decode cX4_end 6 = .ok (.iload_n 1, 1) := by decide +kernel
theorem dX4_end_7 : decode cX4_end 7 = .ok (.imul, 1) := by decide +kernel
theorem dX4_end_8 : decode cX4_end 8 = .ok (.iadd, 1) := by decide +kernel
theorem dX4_end_9 : decode cX4_end 9 = .ok (.istore 4, 2) := by decide +kernel
theorem dX4_end_11 : decode cX4_end 11 = .ok (.aload_n 0, 1) := by decide +kernel
theorem dX4_end_12 : decode cX4_end 12 = .ok (.getfield 108, 3) := by decide +kernel
theorem dX4_end_15 : decode cX4_end 15 = .ok (.bipush 7, 2) := by decide +kernel
theorem dX4_end_17 : decode cX4_end 17 = .ok (.iload_n 2, 1) := by decide +kernel
theorem dX4_end_18 : decode cX4_end 18 = .ok (.imul, 1) := by decide +kernel
theorem dX4_end_19 : decode cX4_end 19 = .ok (.iload_n 1, 1) := by decide +kernel
theorem dX4_end_20 : decode cX4_end 20 = .ok (.iadd, 1) := by decide +kernel
theorem dX4_end_21 : decode cX4_end 21 = .ok (.iaload, 1) := by decide +kernel
theorem dX4_end_22 : decode cX4_end 22 = .ok (.istore 5, 2) := by decide +kernel
theorem dX4_end_24 : decode cX4_end 24 = .ok (.iconst 0, 1) := by decide +kernel
theorem dX4_end_25 : decode cX4_end 25 = .ok (.istore 6, 2) := by decide +kernel
theorem dX4_end_27 : decode cX4_end 27 = .ok (.iload 6, 2) := by decide +kernel
theorem dX4_end_29 : decode cX4_end 29 = .ok (.iload 5, 2) := by decide +kernel
theorem dX4_end_31 : decode cX4_end 31 = .ok (.if_icmp .ge 24, 3) := by decide +kernel
theorem dX4_end_34 : decode cX4_end 34 = .ok (.aload_n 0, 1) := by decide +kernel
theorem dX4_end_35 : decode cX4_end 35 = .ok (.getfield 105, 3) := by decide +kernel
theorem dX4_end_38 : decode cX4_end 38 = .ok (.iload 4, 2) := by decide +kernel
theorem dX4_end_40 : decode cX4_end 40 = .ok (.iload 6, 2) := by decide +kernel
theorem dX4_end_42 : decode cX4_end 42 = .ok (.iadd, 1) := by decide +kernel
theorem dX4_end_43 : decode cX4_end 43 = .ok (.iaload, 1) := by decide +kernel
theorem dX4_end_44 : decode cX4_end 44 = .ok (.iload_n 3, 1) := by decide +kernel
theorem dX4_end_45 : decode cX4_end 45 = .ok (.if_icmp .ne 4, 3) := by decide +kernel
theorem dX4_end_48 : decode cX4_end 48 = .ok (.return_, 1) := by decide +kernel
theorem dX4_end_49 : decode cX4_end 49 = .ok (.iinc 6 1, 3) := by decide +kernel
theorem dX4_end_52 : decode cX4_end 52 = .ok (.goto (-25), 3) := by decide +kernel
theorem dX4_end_55 : decode cX4_end 55 = .ok (.iload 5, 2) := by decide +kernel
theorem dX4_end_57 : decode cX4_end 57 = .ok (.istore 6, 2) := by decide +kernel
theorem dX4_end_59 : decode cX4_end 59 = .ok (.iload 6, 2) := by decide +kernel
theorem dX4_end_61 : decode cX4_end 61 = .ok (.ifCond .le 47, 3) := by decide +kernel
theorem dX4_end_64 : decode cX4_end 64 = .ok (.aload_n 0, 1) := by decide +kernel
theorem dX4_end_65 : decode cX4_end 65 = .ok (.getfield 105, 3) := by decide +kernel
theorem dX4_end_68 : decode cX4_end 68 = .ok (.iload 4, 2) := by decide +kernel
theorem dX4_end_70 : decode cX4_end 70 = .ok (.iload 6, 2) := by decide +kernel
theorem dX4_end_72 : decode cX4_end 72 = .ok (.iadd, 1) := by decide +kernel
theorem dX4_end_73 : decode cX4_end 73 = .ok (.iconst 1, 1) := by decide +kernel
theorem dX4_end_74 : decode cX4_end 74 = .ok (.isub, 1) := by decide +kernel
theorem dX4_end_75 : decode cX4_end 75 = .ok (.iaload, 1) := by decide +kernel
theorem dX4_end_76 : decode cX4_end 76 = .ok (.iload_n 3, 1) := by decide +kernel
theorem dX4_end_77 : decode cX4_end 77 = .ok (.if_icmp .le 31, 3) := by decide +kernel
theorem dX4_end_80 : decode cX4_end 80 = .ok (.aload_n 0, 1) := by decide +kernel
theorem dX4_end_81 : decode cX4_end 81 = .ok (.getfield 105, 3) := by decide +kernel
theorem dX4_end_84 : decode cX4_end 84 = .ok (.iload 4, 2) := by decide +kernel
theorem dX4_end_86 : decode cX4_end 86 = .ok (.iload 6, 2) := by decide +kernel
theorem dX4_end_88 : decode cX4_end 88 = .ok (.iadd, 1) := by decide +kernel
theorem dX4_end_89 : decode cX4_end 89 = .ok (.aload_n 0, 1) := by decide +kernel
theorem dX4_end_90 : decode cX4_end 90 = .ok (.getfield 105, 3) := by decide +kernel
theorem dX4_end_93 : decode cX4_end 93 = .ok (.iload 4, 2) := by decide +kernel
theorem dX4_end_95 : decode cX4_end 95 = .ok (.iload 6, 2) := by decide +kernel
theorem dX4_end_97 : decode cX4_end 97 = .ok (.iadd, 1) := by decide +kernel
theorem dX4_end_98 : decode cX4_end 98 = .ok (.iconst 1, 1) := by decide +kernel
theorem dX4_end_99 : decode cX4_end 99 = .ok (.isub, 1) := by decide +kernel
theorem dX4_end_100 : decode cX4_end 100 = .ok (.iaload, 1) := by decide +kernel
theorem dX4_end_101 : decode cX4_end 101 = .ok (.iastore, 1) := by decide +kernel
theorem dX4_end_102 : decode cX4_end 102 = .ok (.iinc 6 (-1), 3) := by decide +kernel
theorem dX4_end_105 : decode cX4_end 105 = .ok (.goto (-46), 3) := by decide +kernel
theorem dX4_end_108 : decode cX4_end 108 = .ok (.aload_n 0, 1) := by decide +kernel
theorem dX4_end_109 : decode cX4_end 109 = .ok (.getfield 105, 3) := by decide +kernel
theorem dX4_end_112 : decode cX4_end 112 = .ok (.iload 4, 2) := by decide +kernel
theorem dX4_end_114 : decode cX4_end 114 = .ok (.iload 6, 2) := by decide +kernel
theorem dX4_end_116 : decode cX4_end 116 = .ok (.iadd, 1) := by decide +kernel
theorem dX4_end_117 : decode cX4_end 117 = .ok (.iload_n 3, 1) := by decide +kernel
theorem dX4_end_118 : decode cX4_end 118 = .ok (.iastore, 1) := by decide +kernel
theorem dX4_end_119 : decode cX4_end 119 = .ok (.aload_n 0, 1) := by decide +kernel
theorem dX4_end_120 : decode cX4_end 120 = .ok (.getfield 108, 3) := by decide +kernel
theorem dX4_end_123 : decode cX4_end 123 = .ok (.bipush 7, 2) := by decide +kernel
theorem dX4_end_125 : decode cX4_end 125 = .ok (.iload_n 2, 1) := by decide +kernel
theorem dX4_end_126 : decode cX4_end 126 = .ok (.imul, 1) := by decide +kernel
theorem dX4_end_127 : decode cX4_end 127 = .ok (.iload_n 1, 1) := by decide +kernel
theorem dX4_end_128 : decode cX4_end 128 = .ok (.iadd, 1) := by decide +kernel
theorem dX4_end_129 : decode cX4_end 129 = .ok (.iload 5, 2) := by decide +kernel
theorem dX4_end_131 : decode cX4_end 131 = .ok (.iconst 1, 1) := by decide +kernel
theorem dX4_end_132 : decode cX4_end 132 = .ok (.iadd, 1) := by decide +kernel
theorem dX4_end_133 : decode cX4_end 133 = .ok (.iastore, 1) := by decide +kernel
theorem dX4_end_134 : decode cX4_end 134 = .ok (.return_, 1) := by decide +kernel
theorem dX4_enter_0 : decode cX4_enter 0 = .ok (.iconst 0, 1) := by decide +kernel
theorem dX4_enter_1 : decode cX4_enter 1 = .ok (.istore_n 2, 1) := by decide +kernel
theorem dX4_enter_2 : decode cX4_enter 2 = .ok (.iload_n 2, 1) := by decide +kernel
theorem dX4_enter_3 : decode cX4_enter 3 = .ok (.iconst 3, 1) := by decide +kernel
theorem dX4_enter_4 : decode cX4_enter 4 = .ok (.if_icmp .ge 28, 3) := by decide +kernel
theorem dX4_enter_7 : decode cX4_enter 7 = .ok (.aload_n 0, 1) := by decide +kernel
theorem dX4_enter_8 : decode cX4_enter 8 = .ok (.getfield 108, 3) := by decide +kernel
theorem dX4_enter_11 : decode cX4_enter 11 = .ok (.bipush 7, 2) := by decide +kernel
theorem dX4_enter_13 : decode cX4_enter 13 = .ok (.iload_n 2, 1) := by decide +kernel
theorem dX4_enter_14 : decode cX4_enter 14 = .ok (.imul, 1) := by decide +kernel
theorem dX4_enter_15 : decode cX4_enter 15 = .ok (.iload_n 1, 1) := by decide +kernel
theorem dX4_enter_16 : decode cX4_enter 16 = .ok (.iadd, 1) := by decide +kernel
theorem dX4_enter_17 : decode cX4_enter 17 = .ok (.iconst 0, 1) := by decide +kernel
theorem dX4_enter_18 : decode cX4_enter 18 = .ok (.iastore, 1) := by decide +kernel
theorem dX4_enter_19 : decode cX4_enter 19 = .ok (.aload_n 0, 1) := by decide +kernel
theorem dX4_enter_20 : decode cX4_enter 20 = .ok (.iload_n 1, 1) := by decide +kernel
theorem dX4_enter_21 : decode cX4_enter 21 = .ok (.iload_n 2, 1) := by decide +kernel
theorem dX4_enter_22 : decode cX4_enter 22 = .ok (.iconst 0, 1) := by decide +kernel
theorem dX4_enter_23 : decode cX4_enter 23 = .ok (.invokevirtual 158, 3) := by decide +kernel
theorem dX4_enter_26 : decode cX4_enter 26 = .ok (.iinc 2 1, 3) := by decide +kernel
theorem dX4_enter_29 : decode cX4_enter 29 = .ok (.goto (-27), 3) := by decide +kernel
theorem dX4_enter_32 : decode cX4_enter 32 = .ok (.iconst 0, 1) := by decide +kernel
theorem dX4_enter_33 : decode cX4_enter 33 = .ok (.istore_n 2, 1) := by decide +kernel
theorem dX4_enter_34 : decode cX4_enter 34 = .ok (.iload_n 2, 1) := by decide +kernel
theorem dX4_enter_35 : decode cX4_enter 35 = .ok (.aload_n 0, 1) := by decide +kernel
theorem dX4_enter_36 : decode cX4_enter 36 = .ok (.getfield 13, 3) := by decide +kernel
theorem dX4_enter_39 : decode cX4_enter 39 = .ok (.if_icmp .ge 75, 3) := by decide +kernel
theorem dX4_enter_42 : decode cX4_enter 42 = .ok (.aload_n 0, 1) := by decide +kernel
theorem dX4_enter_43 : decode cX4_enter 43 = .ok (.getfield 41, 3) := by decide +kernel
theorem dX4_enter_46 : decode cX4_enter 46 = .ok (.iload_n 2, 1) := by decide +kernel
theorem dX4_enter_47 : decode cX4_enter 47 = .ok (.iaload, 1) := by decide +kernel
theorem dX4_enter_48 : decode cX4_enter 48 = .ok (.ifCond .lt 60, 3) := by decide +kernel
theorem dX4_enter_51 : decode cX4_enter 51 = .ok (.aload_n 0, 1) := by decide +kernel
theorem dX4_enter_52 : decode cX4_enter 52 = .ok (.iload_n 1, 1) := by decide +kernel
theorem dX4_enter_53 : decode cX4_enter 53 = .ok (.iconst 0, 1) := by decide +kernel
theorem dX4_enter_54 : decode cX4_enter 54 = .ok (.aload_n 0, 1) := by decide +kernel
theorem dX4_enter_55 : decode cX4_enter 55 = .ok (.getfield 44, 3) := by decide +kernel
theorem dX4_enter_58 : decode cX4_enter 58 = .ok (.iload_n 2, 1) := by decide +kernel
theorem dX4_enter_59 : decode cX4_enter 59 = .ok (.iaload, 1) := by decide +kernel
theorem dX4_enter_60 : decode cX4_enter 60 = .ok (.aload_n 0, 1) := by decide +kernel
theorem dX4_enter_61 : decode cX4_enter 61 = .ok (.getfield 53, 3) := by decide +kernel
theorem dX4_enter_64 : decode cX4_enter 64 = .ok (.iload_n 2, 1) := by decide +kernel
theorem dX4_enter_65 : decode cX4_enter 65 = .ok (.iaload, 1) := by decide +kernel
theorem dX4_enter_66 : decode cX4_enter 66 = .ok (.iadd, 1) := by decide +kernel
theorem dX4_enter_67 : decode cX4_enter 67 = .ok (.invokevirtual 158, 3) := by decide +kernel
theorem dX4_enter_70 : decode cX4_enter 70 = .ok (.aload_n 0, 1) := by decide +kernel
theorem dX4_enter_71 : decode cX4_enter 71 = .ok (.iload_n 1, 1) := by decide +kernel
theorem dX4_enter_72 : decode cX4_enter 72 = .ok (.iconst 1, 1) := by decide +kernel
theorem dX4_enter_73 : decode cX4_enter 73 = .ok (.aload_n 0, 1) := by decide +kernel
theorem dX4_enter_74 : decode cX4_enter 74 = .ok (.getfield 47, 3) := by decide +kernel
theorem dX4_enter_77 : decode cX4_enter 77 = .ok (.iload_n 2, 1) := by decide +kernel
theorem dX4_enter_78 : decode cX4_enter 78 = .ok (.iaload, 1) := by decide +kernel
theorem dX4_enter_79 : decode cX4_enter 79 = .ok (.aload_n 0, 1) := by decide +kernel
theorem dX4_enter_80 : decode cX4_enter 80 = .ok (.getfield 56, 3) := by decide +kernel
theorem dX4_enter_83 : decode cX4_enter 83 = .ok (.iload_n 2, 1) := by decide +kernel
theorem dX4_enter_84 : decode cX4_enter 84 = .ok (.iaload, 1) := by decide +kernel
theorem dX4_enter_85 : decode cX4_enter 85 = .ok (.iadd, 1) := by decide +kernel
theorem dX4_enter_86 : decode cX4_enter 86 = .ok (.invokevirtual 158, 3) := by decide +kernel
theorem dX4_enter_89 : decode cX4_enter 89 = .ok (.aload_n 0, 1) := by decide +kernel
theorem dX4_enter_90 : decode cX4_enter 90 = .ok (.iload_n 1, 1) := by decide +kernel
theorem dX4_enter_91 : decode cX4_enter 91 = .ok (.iconst 2, 1) := by decide +kernel
theorem dX4_enter_92 : decode cX4_enter 92 = .ok (.aload_n 0, 1) := by decide +kernel
theorem dX4_enter_93 : decode cX4_enter 93 = .ok (.getfield 50, 3) := by decide +kernel
theorem dX4_enter_96 : decode cX4_enter 96 = .ok (.iload_n 2, 1) := by decide +kernel
theorem dX4_enter_97 : decode cX4_enter 97 = .ok (.iaload, 1) := by decide +kernel
theorem dX4_enter_98 : decode cX4_enter 98 = .ok (.aload_n 0, 1) := by decide +kernel
theorem dX4_enter_99 : decode cX4_enter 99 = .ok (.getfield 59, 3) := by decide +kernel
theorem dX4_enter_102 : decode cX4_enter 102 = .ok (.iload_n 2, 1) := by decide +kernel
theorem dX4_enter_103 : decode cX4_enter 103 = .ok (.iaload, 1) := by decide +kernel
theorem dX4_enter_104 : decode cX4_enter 104 = .ok (.iadd, 1) := by decide +kernel
theorem dX4_enter_105 : decode cX4_enter 105 = .ok (.invokevirtual 158, 3) := by decide +kernel
theorem dX4_enter_108 : decode cX4_enter 108 = .ok (.iinc 2 1, 3) := by decide +kernel
theorem dX4_enter_111 : decode cX4_enter 111 = .ok (.goto (-77), 3) := by decide +kernel
theorem dX4_enter_114 : decode cX4_enter 114 = .ok (.aload_n 0, 1) := by decide +kernel
theorem dX4_enter_115 : decode cX4_enter 115 = .ok (.getfield 93, 3) := by decide +kernel
theorem dX4_enter_118 : decode cX4_enter 118 = .ok (.iload_n 1, 1) := by decide +kernel
theorem dX4_enter_119 : decode cX4_enter 119 = .ok (.iconst 0, 1) := by decide +kernel
theorem dX4_enter_120 : decode cX4_enter 120 = .ok (.iastore, 1) := by decide +kernel
theorem dX4_enter_121 : decode cX4_enter 121 = .ok (.aload_n 0, 1) := by decide +kernel
theorem dX4_enter_122 : decode cX4_enter 122 = .ok (.getfield 96, 3) := by decide +kernel
theorem dX4_enter_125 : decode cX4_enter 125 = .ok (.iload_n 1, 1) := by decide +kernel
theorem dX4_enter_126 : decode cX4_enter 126 = .ok (.iconst (-1), 1) := by decide +kernel
theorem dX4_enter_127 : decode cX4_enter 127 = .ok (.iastore, 1) := by decide +kernel
theorem dX4_enter_128 : decode cX4_enter 128 = .ok (.aload_n 0, 1) := by decide +kernel
theorem dX4_enter_129 : decode cX4_enter 129 = .ok (.getfield 99, 3) := by decide +kernel
theorem dX4_enter_132 : decode cX4_enter 132 = .ok (.iload_n 1, 1) := by decide +kernel
theorem dX4_enter_133 : decode cX4_enter 133 = .ok (.iconst 0, 1) := by decide +kernel
theorem dX4_enter_134 : decode cX4_enter 134 = .ok (.iastore, 1) := by decide +kernel
theorem dX4_enter_135 : decode cX4_enter 135 = .ok (.aload_n 0, 1) := by decide +kernel
theorem dX4_enter_136 : decode cX4_enter 136 = .ok (.getfield 102, 3) := by decide +kernel
theorem dX4_enter_139 : decode cX4_enter 139 = .ok (.iload_n 1, 1) := by decide +kernel
theorem dX4_enter_140 : decode cX4_enter 140 = .ok (.iconst 0, 1) := by decide +kernel
theorem dX4_enter_141 : decode cX4_enter 141 = .ok (.iastore, 1) := by decide +kernel
theorem dX4_enter_142 : decode cX4_enter 142 = .ok (.return_, 1) := by decide +kernel
theorem dX4_advance_0 : decode cX4_advance 0 = .ok (.aload_n 0, 1) := by decide +kernel
theorem dX4_advance_1 : decode cX4_advance 1 = .ok (.getfield 96, 3) := by decide +kernel
theorem dX4_advance_4 : decode cX4_advance 4 = .ok (.iload_n 1, 1) := by decide +kernel
theorem dX4_advance_5 : decode cX4_advance 5 = .ok (.aload_n 0, 1) := by decide +kernel
theorem dX4_advance_6 : decode cX4_advance 6 = .ok (.getfield 96, 3) := by decide +kernel
theorem dX4_advance_9 : decode cX4_advance 9 = .ok (.iload_n 1, 1) := by decide +kernel
theorem dX4_advance_10 : decode cX4_advance 10 = .ok (.iaload, 1) := by decide +kernel
theorem dX4_advance_11 : decode cX4_advance 11 = .ok (.iconst 1, 1) := by decide +kernel
theorem dX4_advance_12 : decode cX4_advance 12 = .ok (.iadd, 1) := by decide +kernel
theorem dX4_advance_13 : decode cX4_advance 13 = .ok (.iastore, 1) := by decide +kernel
theorem dX4_advance_14 : decode cX4_advance 14 = .ok (.aload_n 0, 1) := by decide +kernel
theorem dX4_advance_15 : decode cX4_advance 15 = .ok (.getfield 96, 3) := by decide +kernel
theorem dX4_advance_18 : decode cX4_advance 18 = .ok (.iload_n 1, 1) := by decide +kernel
theorem dX4_advance_19 : decode cX4_advance 19 = .ok (.iaload, 1) := by decide +kernel
theorem dX4_advance_20 : decode cX4_advance 20 = .ok (.aload_n 0, 1) := by decide +kernel
theorem dX4_advance_21 : decode cX4_advance 21 = .ok (.getfield 108, 3) := by decide +kernel
theorem dX4_advance_24 : decode cX4_advance 24 = .ok (.iload_n 1, 1) := by decide +kernel
theorem dX4_advance_25 : decode cX4_advance 25 = .ok (.iaload, 1) := by decide +kernel
theorem dX4_advance_26 : decode cX4_advance 26 = .ok (.if_icmp .ne 24, 3) := by decide +kernel
theorem dX4_advance_29 : decode cX4_advance 29 = .ok (.aload_n 0, 1) := by decide +kernel
theorem dX4_advance_30 : decode cX4_advance 30 = .ok (.getfield 96, 3) := by decide +kernel
theorem dX4_advance_33 : decode cX4_advance 33 = .ok (.iload_n 1, 1) := by decide +kernel
theorem dX4_advance_34 : decode cX4_advance 34 = .ok (.iconst 0, 1) := by decide +kernel
theorem dX4_advance_35 : decode cX4_advance 35 = .ok (.iastore, 1) := by decide +kernel
theorem dX4_advance_36 : decode cX4_advance 36 = .ok (.aload_n 0, 1) := by decide +kernel
theorem dX4_advance_37 : decode cX4_advance 37 = .ok (.getfield 99, 3) := by decide +kernel
theorem dX4_advance_40 : decode cX4_advance 40 = .ok (.iload_n 1, 1) := by decide +kernel
theorem dX4_advance_41 : decode cX4_advance 41 = .ok (.aload_n 0, 1) := by decide +kernel
theorem dX4_advance_42 : decode cX4_advance 42 = .ok (.getfield 99, 3) := by decide +kernel
theorem dX4_advance_45 : decode cX4_advance 45 = .ok (.iload_n 1, 1) := by decide +kernel
theorem dX4_advance_46 : decode cX4_advance 46 = .ok (.iaload, 1) := by decide +kernel
theorem dX4_advance_47 : decode cX4_advance 47 = .ok (.iconst 1, 1) := by decide +kernel
theorem dX4_advance_48 : decode cX4_advance 48 = .ok (.iadd, 1) := by decide +kernel
theorem dX4_advance_49 : decode cX4_advance 49 = .ok (.iastore, 1) := by decide +kernel
theorem dX4_advance_50 : decode cX4_advance 50 = .ok (.aload_n 0, 1) := by decide +kernel
theorem dX4_advance_51 : decode cX4_advance 51 = .ok (.getfield 99, 3) := by decide +kernel
theorem dX4_advance_54 : decode cX4_advance 54 = .ok (.iload_n 1, 1) := by decide +kernel
theorem dX4_advance_55 : decode cX4_advance 55 = .ok (.iaload, 1) := by decide +kernel
theorem dX4_advance_56 : decode cX4_advance 56 = .ok (.aload_n 0, 1) := by decide +kernel
theorem dX4_advance_57 : decode cX4_advance 57 = .ok (.getfield 108, 3) := by decide +kernel
theorem dX4_advance_60 : decode cX4_advance 60 = .ok (.bipush 7, 2) := by decide +kernel
theorem dX4_advance_62 : decode cX4_advance 62 = .ok (.iload_n 1, 1) := by decide +kernel
theorem dX4_advance_63 : decode cX4_advance 63 = .ok (.iadd, 1) := by decide +kernel
theorem dX4_advance_64 : decode cX4_advance 64 = .ok (.iaload, 1) := by decide +kernel
theorem dX4_advance_65 : decode cX4_advance 65 = .ok (.if_icmp .ne 24, 3) := by decide +kernel
theorem dX4_advance_68 : decode cX4_advance 68 = .ok (.aload_n 0, 1) := by decide +kernel
theorem dX4_advance_69 : decode cX4_advance 69 = .ok (.getfield 99, 3) := by decide +kernel
theorem dX4_advance_72 : decode cX4_advance 72 = .ok (.iload_n 1, 1) := by decide +kernel
theorem dX4_advance_73 : decode cX4_advance 73 = .ok (.iconst 0, 1) := by decide +kernel
theorem dX4_advance_74 : decode cX4_advance 74 = .ok (.iastore, 1) := by decide +kernel
theorem dX4_advance_75 : decode cX4_advance 75 = .ok (.aload_n 0, 1) := by decide +kernel
theorem dX4_advance_76 : decode cX4_advance 76 = .ok (.getfield 102, 3) := by decide +kernel
theorem dX4_advance_79 : decode cX4_advance 79 = .ok (.iload_n 1, 1) := by decide +kernel
theorem dX4_advance_80 : decode cX4_advance 80 = .ok (.aload_n 0, 1) := by decide +kernel
theorem dX4_advance_81 : decode cX4_advance 81 = .ok (.getfield 102, 3) := by decide +kernel
theorem dX4_advance_84 : decode cX4_advance 84 = .ok (.iload_n 1, 1) := by decide +kernel
theorem dX4_advance_85 : decode cX4_advance 85 = .ok (.iaload, 1) := by decide +kernel
theorem dX4_advance_86 : decode cX4_advance 86 = .ok (.iconst 1, 1) := by decide +kernel
theorem dX4_advance_87 : decode cX4_advance 87 = .ok (.iadd, 1) := by decide +kernel
theorem dX4_advance_88 : decode cX4_advance 88 = .ok (.iastore, 1) := by decide +kernel
theorem dX4_advance_89 : decode cX4_advance 89 = .ok (.aload_n 0, 1) := by decide +kernel
theorem dX4_advance_90 : decode cX4_advance 90 = .ok (.getfield 102, 3) := by decide +kernel
theorem dX4_advance_93 : decode cX4_advance 93 = .ok (.iload_n 1, 1) := by decide +kernel
theorem dX4_advance_94 : decode cX4_advance 94 = .ok (.iaload, 1) := by decide +kernel
theorem dX4_advance_95 : decode cX4_advance 95 = .ok (.aload_n 0, 1) := by decide +kernel
theorem dX4_advance_96 : decode cX4_advance 96 = .ok (.getfield 108, 3) := by decide +kernel
theorem dX4_advance_99 : decode cX4_advance 99 = .ok (.bipush 14, 2) := by decide +kernel
theorem dX4_advance_101 : decode cX4_advance 101 = .ok (.iload_n 1, 1) := by decide +kernel
theorem dX4_advance_102 : decode cX4_advance 102 = .ok (.iadd, 1) := by decide +kernel
theorem dX4_advance_103 : decode cX4_advance 103 = .ok (.iaload, 1) := by decide +kernel
theorem dX4_advance_104 : decode cX4_advance 104 = .ok (.if_icmp .ne 71, 3) := by decide +kernel
theorem dX4_advance_107 : decode cX4_advance 107 = .ok (.aload_n 0, 1) := by decide +kernel
theorem dX4_advance_108 : decode cX4_advance 108 = .ok (.getfield 102, 3) := by decide +kernel
theorem dX4_advance_111 : decode cX4_advance 111 = .ok (.iload_n 1, 1) := by decide +kernel
theorem dX4_advance_112 : decode cX4_advance 112 = .ok (.iconst 0, 1) := by decide +kernel
theorem dX4_advance_113 : decode cX4_advance 113 = .ok (.iastore, 1) := by decide +kernel
theorem dX4_advance_114 : decode cX4_advance 114 = .ok (.aload_n 0, 1) := by decide +kernel
theorem dX4_advance_115 : decode cX4_advance 115 = .ok (.getfield 93, 3) := by decide +kernel
theorem dX4_advance_118 : decode cX4_advance 118 = .ok (.iload_n 1, 1) := by decide +kernel
theorem dX4_advance_119 : decode cX4_advance 119 = .ok (.aload_n 0, 1) := by decide +kernel
theorem dX4_advance_120 : decode cX4_advance 120 = .ok (.getfield 93, 3) := by decide +kernel
theorem dX4_advance_123 : decode cX4_advance 123 = .ok (.iload_n 1, 1) := by decide +kernel
theorem dX4_advance_124 : decode cX4_advance 124 = .ok (.iaload, 1) := by decide +kernel
theorem dX4_advance_125 : decode cX4_advance 125 = .ok (.iconst 1, 1) := by decide +kernel
theorem dX4_advance_126 : decode cX4_advance 126 = .ok (.iadd, 1) := by decide +kernel
theorem dX4_advance_127 : decode cX4_advance 127 = .ok (.iastore, 1) := by decide +kernel
theorem dX4_advance_128 : decode cX4_advance 128 = .ok (.aload_n 0, 1) := by decide +kernel
theorem dX4_advance_129 : decode cX4_advance 129 = .ok (.getfield 93, 3) := by decide +kernel
theorem dX4_advance_132 : decode cX4_advance 132 = .ok (.iload_n 1, 1) := by decide +kernel
theorem dX4_advance_133 : decode cX4_advance 133 = .ok (.iaload, 1) := by decide +kernel
theorem dX4_advance_134 : decode cX4_advance 134 = .ok (.bipush 6, 2) := by decide +kernel
theorem dX4_advance_136 : decode cX4_advance 136 = .ok (.if_icmp .ge 39, 3) := by decide +kernel
theorem dX4_advance_139 : decode cX4_advance 139 = .ok (.aload_n 0, 1) := by decide +kernel
theorem dX4_advance_140 : decode cX4_advance 140 = .ok (.aload_n 0, 1) := by decide +kernel
theorem dX4_advance_141 : decode cX4_advance 141 = .ok (.getfield 90, 3) := by decide +kernel
theorem dX4_advance_144 : decode cX4_advance 144 = .ok (.iload_n 1, 1) := by decide +kernel
theorem dX4_advance_145 : decode cX4_advance 145 = .ok (.iaload, 1) := by decide +kernel
theorem dX4_advance_146 : decode cX4_advance 146 = .ok (.aload_n 0, 1) := by decide +kernel
theorem dX4_advance_147 : decode cX4_advance 147 = .ok (.getfield 93, 3) := by decide +kernel
theorem dX4_advance_150 : decode cX4_advance 150 = .ok (.iload_n 1, 1) := by decide +kernel
theorem dX4_advance_151 : decode cX4_advance 151 = .ok (.iaload, 1) := by decide +kernel
theorem dX4_advance_152 : decode cX4_advance 152 = .ok (.invokevirtual 162, 3) := by decide +kernel
theorem dX4_advance_155 : decode cX4_advance 155 = .ok (.ifCond .ne 20, 3) := by decide +kernel
theorem dX4_advance_158 : decode cX4_advance 158 = .ok (.aload_n 0, 1) := by decide +kernel
theorem dX4_advance_159 : decode cX4_advance 159 = .ok (.getfield 93, 3) := by decide +kernel
theorem dX4_advance_162 : decode cX4_advance 162 = .ok (.iload_n 1, 1) := by decide +kernel
theorem dX4_advance_163 : decode cX4_advance 163 = .ok (.aload_n 0, 1) := by decide +kernel
theorem dX4_advance_164 : decode cX4_advance 164 = .ok (.getfield 93, 3) := by decide +kernel
theorem dX4_advance_167 : decode cX4_advance 167 = .ok (.iload_n 1, 1) := by decide +kernel
theorem dX4_advance_168 : decode cX4_advance 168 = .ok (.iaload, 1) := by decide +kernel
theorem dX4_advance_169 : decode cX4_advance 169 = .ok (.iconst 1, 1) := by decide +kernel
theorem dX4_advance_170 : decode cX4_advance 170 = .ok (.iadd, 1) := by decide +kernel
theorem dX4_advance_171 : decode cX4_advance 171 = .ok (.iastore, 1) := by decide +kernel
theorem dX4_advance_172 : decode cX4_advance 172 = .ok (.goto (-44), 3) := by decide +kernel
theorem dX4_advance_175 : decode cX4_advance 175 = .ok (.aload_n 0, 1) := by decide +kernel
theorem dX4_advance_176 : decode cX4_advance 176 = .ok (.getfield 93, 3) := by decide +kernel
theorem dX4_advance_179 : decode cX4_advance 179 = .ok (.iload_n 1, 1) := by decide +kernel
theorem dX4_advance_180 : decode cX4_advance 180 = .ok (.iaload, 1) := by decide +kernel
theorem dX4_advance_181 : decode cX4_advance 181 = .ok (.bipush 6, 2) := by decide +kernel
theorem dX4_advance_183 : decode cX4_advance 183 = .ok (.if_icmp .ge 7, 3) := by decide +kernel
theorem dX4_advance_186 : decode cX4_advance 186 = .ok (.iconst 1, 1) := by decide +kernel
theorem dX4_advance_187 : decode cX4_advance 187 = .ok (.goto 4, 3) := by decide +kernel
theorem dX4_advance_190 : decode cX4_advance 190 = .ok (.iconst 0, 1) := by decide +kernel
theorem dX4_advance_191 : decode cX4_advance 191 = .ok (.ireturn, 1) := by decide +kernel
theorem dX4_look_0 : decode cX4_look 0 = .ok (.aload_n 0, 1) := by decide +kernel
theorem dX4_look_1 : decode cX4_look 1 = .ok (.invokevirtual 165, 3) := by decide +kernel
theorem dX4_look_4 : decode cX4_look 4 = .ok (.istore_n 1, 1) := by decide +kernel
theorem dX4_look_5 : decode cX4_look 5 = .ok (.aload_n 0, 1) := by decide +kernel
theorem dX4_look_6 : decode cX4_look 6 = .ok (.getfield 62, 3) := by decide +kernel
theorem dX4_look_9 : decode cX4_look 9 = .ok (.ifCond .eq 12, 3) := by decide +kernel
theorem dX4_look_12 : decode cX4_look 12 = .ok (.iload_n 1, 1) := by decide +kernel
theorem dX4_look_13 : decode cX4_look 13 = .ok (.aload_n 0, 1) := by decide +kernel
theorem dX4_look_14 : decode cX4_look 14 = .ok (.getfield 66, 3) := by decide +kernel
theorem dX4_look_17 : decode cX4_look 17 = .ok (.if_icmp .gt 4, 3) := by decide +kernel
theorem dX4_look_20 : decode cX4_look 20 = .ok (.return_, 1) := by decide +kernel
theorem dX4_look_21 : decode cX4_look 21 = .ok (.aload_n 0, 1) := by decide +kernel
theorem dX4_look_22 : decode cX4_look 22 = .ok (.iconst 1, 1) := by decide +kernel
theorem dX4_look_23 : decode cX4_look 23 = .ok (.putfield 62, 3) := by decide +kernel
theorem dX4_look_26 : decode cX4_look 26 = .ok (.aload_n 0, 1) := by decide +kernel
theorem dX4_look_27 : decode cX4_look 27 = .ok (.iload_n 1, 1) := by decide +kernel
theorem dX4_look_28 : decode cX4_look 28 = .ok (.putfield 66, 3) := by decide +kernel
theorem dX4_look_31 : decode cX4_look 31 = .ok (.iconst 0, 1) := by decide +kernel
theorem dX4_look_32 : decode cX4_look 32 = .ok (.istore_n 2, 1) := by decide +kernel
theorem dX4_look_33 : decode cX4_look 33 = .ok (.iload_n 2, 1) := by decide +kernel
theorem dX4_look_34 : decode cX4_look 34 = .ok (.bipush 6, 2) := by decide +kernel
theorem dX4_look_36 : decode cX4_look 36 = .ok (.if_icmp .ge 57, 3) := by decide +kernel
theorem dX4_look_39 : decode cX4_look 39 = .ok (.aload_n 0, 1) := by decide +kernel
theorem dX4_look_40 : decode cX4_look 40 = .ok (.getfield 69, 3) := by decide +kernel
theorem dX4_look_43 : decode cX4_look 43 = .ok (.iload_n 2, 1) := by decide +kernel
theorem dX4_look_44 : decode cX4_look 44 = .ok (.aload_n 0, 1) := by decide +kernel
theorem dX4_look_45 : decode cX4_look 45 = .ok (.getfield 41, 3) := by decide +kernel
theorem dX4_look_48 : decode cX4_look 48 = .ok (.iload_n 2, 1) := by decide +kernel
theorem dX4_look_49 : decode cX4_look 49 = .ok (.iaload, 1) := by decide +kernel
theorem dX4_look_50 : decode cX4_look 50 = .ok (.iastore, 1) := by decide +kernel
theorem dX4_look_51 : decode cX4_look 51 = .ok (.aload_n 0, 1) := by decide +kernel
theorem dX4_look_52 : decode cX4_look 52 = .ok (.getfield 72, 3) := by decide +kernel
theorem dX4_look_55 : decode cX4_look 55 = .ok (.iload_n 2, 1) := by decide +kernel
theorem dX4_look_56 : decode cX4_look 56 = .ok (.aload_n 0, 1) := by decide +kernel
theorem dX4_look_57 : decode cX4_look 57 = .ok (.getfield 44, 3) := by decide +kernel
theorem dX4_look_60 : decode cX4_look 60 = .ok (.iload_n 2, 1) := by decide +kernel
theorem dX4_look_61 : decode cX4_look 61 = .ok (.iaload, 1) := by decide +kernel
theorem dX4_look_62 : decode cX4_look 62 = .ok (.iastore, 1) := by decide +kernel
theorem dX4_look_63 : decode cX4_look 63 = .ok (.aload_n 0, 1) := by decide +kernel
theorem dX4_look_64 : decode cX4_look 64 = .ok (.getfield 75, 3) := by decide +kernel
theorem dX4_look_67 : decode cX4_look 67 = .ok (.iload_n 2, 1) := by decide +kernel
theorem dX4_look_68 : decode cX4_look 68 = .ok (.aload_n 0, 1) := by decide +kernel
theorem dX4_look_69 : decode cX4_look 69 = .ok (.getfield 47, 3) := by decide +kernel
theorem dX4_look_72 : decode cX4_look 72 = .ok (.iload_n 2, 1) := by decide +kernel
theorem dX4_look_73 : decode cX4_look 73 = .ok (.iaload, 1) := by decide +kernel
theorem dX4_look_74 : decode cX4_look 74 = .ok (.iastore, 1) := by decide +kernel
theorem dX4_look_75 : decode cX4_look 75 = .ok (.aload_n 0, 1) := by decide +kernel
theorem dX4_look_76 : decode cX4_look 76 = .ok (.getfield 78, 3) := by decide +kernel
theorem dX4_look_79 : decode cX4_look 79 = .ok (.iload_n 2, 1) := by decide +kernel
theorem dX4_look_80 : decode cX4_look 80 = .ok (.aload_n 0, 1) := by decide +kernel
theorem dX4_look_81 : decode cX4_look 81 = .ok (.getfield 50, 3) := by decide +kernel
theorem dX4_look_84 : decode cX4_look 84 = .ok (.iload_n 2, 1) := by decide +kernel
theorem dX4_look_85 : decode cX4_look 85 = .ok (.iaload, 1) := by decide +kernel
theorem dX4_look_86 : decode cX4_look 86 = .ok (.iastore, 1) := by decide +kernel
theorem dX4_look_87 : decode cX4_look 87 = .ok (.iinc 2 1, 3) := by decide +kernel
theorem dX4_look_90 : decode cX4_look 90 = .ok (.goto (-57), 3) := by decide +kernel
theorem dX4_look_93 : decode cX4_look 93 = .ok (.return_, 1) := by decide +kernel
theorem dX4_search_0 : decode cX4_search 0 = .ok (.iconst 0, 1) := by decide +kernel
theorem dX4_search_1 : decode cX4_search 1 = .ok (.istore_n 2, 1) := by decide +kernel
theorem dX4_search_2 : decode cX4_search 2 = .ok (.aload_n 0, 1) := by decide +kernel
theorem dX4_search_3 : decode cX4_search 3 = .ok (.getfield 87, 3) := by decide +kernel
theorem dX4_search_6 : decode cX4_search 6 = .ok (.ifCond .le 8, 3) := by decide +kernel
theorem dX4_search_9 : decode cX4_search 9 = .ok (.aload_n 0, 1) := by decide +kernel
theorem dX4_search_10 : decode cX4_search 10 = .ok (.iconst 0, 1) := by decide +kernel
theorem dX4_search_11 : decode cX4_search 11 = .ok (.invokevirtual 169, 3) := by decide +kernel
theorem dX4_search_14 : decode cX4_search 14 = .ok (.aload_n 0, 1) := by decide +kernel
theorem dX4_search_15 : decode cX4_search 15 = .ok (.getfield 111, 3) := by decide +kernel
theorem dX4_search_18 : decode cX4_search 18 = .ok (.iconst 0, 1) := by decide +kernel
theorem dX4_search_19 : decode cX4_search 19 = .ok (.iconst 0, 1) := by decide +kernel
theorem dX4_search_20 : decode cX4_search 20 = .ok (.iastore, 1) := by decide +kernel
theorem dX4_search_21 : decode cX4_search 21 = .ok (.iload_n 2, 1) := by decide +kernel
theorem dX4_search_22 : decode cX4_search 22 = .ok (.ifCond .lt 212, 3) := by decide +kernel
theorem dX4_search_25 : decode cX4_search 25 = .ok (.iload_n 2, 1) := by decide +kernel
theorem dX4_search_26 : decode cX4_search 26 = .ok (.aload_n 0, 1) := by decide +kernel
theorem dX4_search_27 : decode cX4_search 27 = .ok (.getfield 87, 3) := by decide +kernel
theorem dX4_search_30 : decode cX4_search 30 = .ok (.if_icmp .ne 13, 3) := by decide +kernel
theorem dX4_search_33 : decode cX4_search 33 = .ok (.aload_n 0, 1) := by decide +kernel
theorem dX4_search_34 : decode cX4_search 34 = .ok (.invokevirtual 173, 3) := by decide +kernel
theorem dX4_search_37 : decode cX4_search 37 = .ok (.iinc 2 (-1), 3) := by decide +kernel
theorem dX4_search_40 : decode cX4_search 40 = .ok (.goto (-19), 3) := by decide +kernel
theorem dX4_search_43 : decode cX4_search 43 = .ok (.aload_n 0, 1) := by decide +kernel
theorem dX4_search_44 : decode cX4_search 44 = .ok (.getfield 111, 3) := by decide +kernel
theorem dX4_search_47 : decode cX4_search 47 = .ok (.iload_n 2, 1) := by decide +kernel
theorem dX4_search_48 : decode cX4_search 48 = .ok (.iaload, 1) := by decide +kernel
theorem dX4_search_49 : decode cX4_search 49 = .ok (.iconst 1, 1) := by decide +kernel
theorem dX4_search_50 : decode cX4_search 50 = .ok (.if_icmp .ne 9, 3) := by decide +kernel
theorem dX4_search_53 : decode cX4_search 53 = .ok (.iinc 2 (-1), 3) := by decide +kernel
theorem dX4_search_56 : decode cX4_search 56 = .ok (.goto (-35), 3) := by decide +kernel
theorem dX4_search_59 : decode cX4_search 59 = .ok (.aload_n 0, 1) := by decide +kernel
theorem dX4_search_60 : decode cX4_search 60 = .ok (.getfield 41, 3) := by decide +kernel
theorem dX4_search_63 : decode cX4_search 63 = .ok (.aload_n 0, 1) := by decide +kernel
theorem dX4_search_64 : decode cX4_search 64 = .ok (.getfield 90, 3) := by decide +kernel
theorem dX4_search_67 : decode cX4_search 67 = .ok (.iload_n 2, 1) := by decide +kernel
theorem dX4_search_68 : decode cX4_search 68 = .ok (.iaload, 1) := by decide +kernel
theorem dX4_search_69 : decode cX4_search 69 = .ok (.iconst (-1), 1) := by decide +kernel
theorem dX4_search_70 : decode cX4_search 70 = .ok (.iastore, 1) := by decide +kernel
theorem dX4_search_71 : decode cX4_search 71 = .ok (.iconst 0, 1) := by decide +kernel
theorem dX4_search_72 : decode cX4_search 72 = .ok (.istore_n 3, 1) := by decide +kernel
theorem dX4_search_73 : decode cX4_search 73 = .ok (.aload_n 0, 1) := by decide +kernel
theorem dX4_search_74 : decode cX4_search 74 = .ok (.iload_n 2, 1) := by decide +kernel
theorem dX4_search_75 : decode cX4_search 75 = .ok (.invokevirtual 176, 3) := by decide +kernel
theorem dX4_search_78 : decode cX4_search 78 = .ok (.ifCond .ne 15, 3) := by decide +kernel
theorem dX4_search_81 : decode cX4_search 81 = .ok (.aload_n 0, 1) := by decide +kernel
theorem dX4_search_82 : decode cX4_search 82 = .ok (.getfield 111, 3) := by decide +kernel
theorem dX4_search_85 : decode cX4_search 85 = .ok (.iload_n 2, 1) := by decide +kernel
theorem dX4_search_86 : decode cX4_search 86 = .ok (.iconst 1, 1) := by decide +kernel
theorem dX4_search_87 : decode cX4_search 87 = .ok (.iastore, 1) := by decide +kernel
theorem dX4_search_88 : decode cX4_search 88 = .ok (.iconst 1, 1) := by decide +kernel
theorem dX4_search_89 : decode cX4_search 89 = .ok (.istore_n 3, 1) := by decide +kernel
theorem dX4_search_90 : decode cX4_search 90 = .ok (.goto 114, 3) := by decide +kernel
theorem dX4_search_93 : decode cX4_search 93 = .ok (.aload_n 0, 1) := by decide +kernel
theorem dX4_search_94 : decode cX4_search 94 = .ok (.getfield 81, 3) := by decide +kernel
theorem dX4_search_97 : decode cX4_search 97 = .ok (.iload_n 1, 1) := by decide +kernel
theorem dX4_search_98 : decode cX4_search 98 = .ok (.if_icmp .ne 5, 3) := by decide +kernel
theorem dX4_search_101 : decode cX4_search 101 = .ok (.iconst 0, 1) := by decide +kernel
theorem dX4_search_102 : decode cX4_search 102 = .ok (.ireturn, 1) := by decide +kernel
theorem dX4_search_103 : decode cX4_search 103 = .ok (.aload_n 0, 1) := by decide +kernel
theorem dX4_search_104 : decode cX4_search 104 = .ok (.dup, 1) := by decide +kernel
theorem dX4_search_105 : decode cX4_search 105 = .ok (.getfield 81, 3) := by decide +kernel
theorem dX4_search_108 : decode cX4_search 108 = .ok (.iconst 1, 1) := by decide +kernel
theorem dX4_search_109 : decode cX4_search 109 = .ok (.iadd, 1) := by decide +kernel
theorem dX4_search_110 : decode cX4_search 110 = .ok (.putfield 81, 3) := by decide +kernel
theorem dX4_search_113 : decode cX4_search 113 = .ok (.aload_n 0, 1) := by decide +kernel
theorem dX4_search_114 : decode cX4_search 114 = .ok (.aload_n 0, 1) := by decide +kernel
theorem dX4_search_115 : decode cX4_search 115 = .ok (.getfield 90, 3) := by decide +kernel
theorem dX4_search_118 : decode cX4_search 118 = .ok (.iload_n 2, 1) := by decide +kernel
theorem dX4_search_119 : decode cX4_search 119 = .ok (.iaload, 1) := by decide +kernel
theorem dX4_search_120 : decode cX4_search 120 = .ok (.aload_n 0, 1) := by decide +kernel
theorem dX4_search_121 : decode cX4_search 121 = .ok (.getfield 93, 3) := by decide +kernel
theorem dX4_search_124 : decode cX4_search 124 = .ok (.iload_n 2, 1) := by decide +kernel
theorem dX4_search_125 : decode cX4_search 125 = .ok (.iaload, 1) := by decide +kernel
theorem dX4_search_126 : decode cX4_search 126 = .ok (.aload_n 0, 1) := by decide +kernel
theorem dX4_search_127 : decode cX4_search 127 = .ok (.getfield 105, 3) := by decide +kernel
theorem dX4_search_130 : decode cX4_search 130 = .ok (.bipush 8, 2) := by decide +kernel
theorem dX4_search_132 : decode cX4_search 132 = .ok (.iload_n 2, 1) := by decide +kernel
theorem dX4_search_133 : decode cX4_search 133 = .ok (.imul, 1) := by decide +kernel
theorem dX4_search_134 : decode cX4_search 134 = .ok (.aload_n 0, 1) := by decide +kernel
theorem dX4_search_135 : decode cX4_search 135 = .ok (.getfield 96, 3) := by decide +kernel
theorem dX4_search_138 : decode cX4_search 138 = .ok (.iload_n 2, 1) := by decide +kernel
theorem dX4_search_139 : decode cX4_search 139 = .ok (.iaload, 1) := by decide +kernel
theorem dX4_search_140 : decode cX4_search 140 = .ok (.iadd, 1) := by decide +kernel
theorem dX4_search_141 : decode cX4_search 141 = .ok (.iaload, 1) := by decide +kernel
theorem dX4_search_142 : decode cX4_search 142 = .ok (.aload_n 0, 1) := by decide +kernel
theorem dX4_search_143 : decode cX4_search 143 = .ok (.getfield 105, 3) := by decide +kernel
theorem dX4_search_146 : decode cX4_search 146 = .ok (.bipush 56, 2) := by decide +kernel
theorem dX4_search_148 : decode cX4_search 148 = .ok (.bipush 8, 2) := by decide +kernel
theorem dX4_search_150 : decode cX4_search 150 = .ok (.iload_n 2, 1) := by decide +kernel
theorem dX4_search_151 : decode cX4_search 151 = .ok (.imul, 1) := by decide +kernel
theorem dX4_search_152 : decode cX4_search 152 = .ok (.iadd, 1) := by decide +kernel
theorem dX4_search_153 : decode cX4_search 153 = .ok (.aload_n 0, 1) := by decide +kernel
theorem dX4_search_154 : decode cX4_search 154 = .ok (.getfield 99, 3) := by decide +kernel
theorem dX4_search_157 : decode cX4_search 157 = .ok (.iload_n 2, 1) := by decide +kernel
theorem dX4_search_158 : decode cX4_search 158 = .ok (.iaload, 1) := by decide +kernel
theorem dX4_search_159 : decode cX4_search 159 = .ok (.iadd, 1) := by decide +kernel
theorem dX4_search_160 : decode cX4_search 160 = .ok (.iaload, 1) := by decide +kernel
theorem dX4_search_161 : decode cX4_search 161 = .ok (.aload_n 0, 1) := by decide +kernel
theorem dX4_search_162 : decode cX4_search 162 = .ok (.getfield 105, 3) := by decide +kernel
theorem dX4_search_165 : decode cX4_search 165 = .ok (.bipush 112, 2) := by decide +kernel
theorem dX4_search_167 : decode cX4_search 167 = .ok (.bipush 8, 2) := by decide +kernel
theorem dX4_search_169 : decode cX4_search 169 = .ok (.iload_n 2, 1) := by decide +kernel
theorem dX4_search_170 : decode cX4_search 170 = .ok (.imul, 1) := by decide +kernel
theorem dX4_search_171 : decode cX4_search 171 = .ok (.iadd, 1) := by decide +kernel
theorem dX4_search_172 : decode cX4_search 172 = .ok (.aload_n 0, 1) := by decide +kernel
theorem dX4_search_173 : decode cX4_search 173 = .ok (.getfield 102, 3) := by decide +kernel
theorem dX4_search_176 : decode cX4_search 176 = .ok (.iload_n 2, 1) := by decide +kernel
theorem dX4_search_177 : decode cX4_search 177 = .ok (.iaload, 1) := by decide +kernel
theorem dX4_search_178 : decode cX4_search 178 = .ok (.iadd, 1) := by decide +kernel
theorem dX4_search_179 : decode cX4_search 179 = .ok (.iaload, 1) := by decide +kernel
theorem dX4_search_180 : decode cX4_search 180 = .ok (.invokevirtual 180, 3) := by decide +kernel
theorem dX4_search_183 : decode cX4_search 183 = .ok (.aload_n 0, 1) := by decide +kernel
theorem dX4_search_184 : decode cX4_search 184 = .ok (.invokevirtual 184, 3) := by decide +kernel
theorem dX4_search_187 : decode cX4_search 187 = .ok (.istore_n 3, 1) := by decide +kernel
theorem dX4_search_188 : decode cX4_search 188 = .ok (.iload_n 3, 1) := by decide +kernel
theorem dX4_search_189 : decode cX4_search 189 = .ok (.ifCond .ne 15, 3) := by decide +kernel
theorem dX4_search_192 : decode cX4_search 192 = .ok (.aload_n 0, 1) := by decide +kernel
theorem dX4_search_193 : decode cX4_search 193 = .ok (.getfield 41, 3) := by decide +kernel
theorem dX4_search_196 : decode cX4_search 196 = .ok (.aload_n 0, 1) := by decide +kernel
theorem dX4_search_197 : decode cX4_search 197 = .ok (.getfield 90, 3) := by decide +kernel
theorem dX4_search_200 : decode cX4_search 200 = .ok (.iload_n 2, 1) := by decide +kernel
theorem dX4_search_201 : decode cX4_search 201 = .ok (.iaload, 1) := by decide +kernel
theorem dX4_search_202 : decode cX4_search 202 = .ok (.iconst (-1), 1) := by decide +kernel
theorem dX4_search_203 : decode cX4_search 203 = .ok (.iastore, 1) := by decide +kernel
theorem dX4_search_204 : decode cX4_search 204 = .ok (.iload_n 3, 1) := by decide +kernel
theorem dX4_search_205 : decode cX4_search 205 = .ok (.ifCond .eq 26, 3) := by decide +kernel
theorem dX4_search_208 : decode cX4_search 208 = .ok (.iinc 2 1, 3) := by decide +kernel
theorem dX4_search_211 : decode cX4_search 211 = .ok (.aload_n 0, 1) := by decide +kernel
theorem dX4_search_212 : decode cX4_search 212 = .ok (.getfield 111, 3) := by decide +kernel
theorem dX4_search_215 : decode cX4_search 215 = .ok (.iload_n 2, 1) := by decide +kernel
theorem dX4_search_216 : decode cX4_search 216 = .ok (.iconst 0, 1) := by decide +kernel
theorem dX4_search_217 : decode cX4_search 217 = .ok (.iastore, 1) := by decide +kernel
theorem dX4_search_218 : decode cX4_search 218 = .ok (.iload_n 2, 1) := by decide +kernel
theorem dX4_search_219 : decode cX4_search 219 = .ok (.aload_n 0, 1) := by decide +kernel
theorem dX4_search_220 : decode cX4_search 220 = .ok (.getfield 87, 3) := by decide +kernel
theorem dX4_search_223 : decode cX4_search 223 = .ok (.if_icmp .ge 8, 3) := by decide +kernel
theorem dX4_search_226 : decode cX4_search 226 = .ok (.aload_n 0, 1) := by decide +kernel
theorem dX4_search_227 : decode cX4_search 227 = .ok (.iload_n 2, 1) := by decide +kernel
theorem dX4_search_228 : decode cX4_search 228 = .ok (.invokevirtual 169, 3) := by decide +kernel
theorem dX4_search_231 : decode cX4_search 231 = .ok (.goto (-210), 3) := by decide +kernel
theorem dX4_search_234 : decode cX4_search 234 = .ok (.iconst 1, 1) := by decide +kernel
theorem dX4_search_235 : decode cX4_search 235 = .ok (.ireturn, 1) := by decide +kernel
theorem dX4_thrown_0 : decode cX4_thrown 0 = .ok (.aload_n 0, 1) := by decide +kernel
theorem dX4_thrown_1 : decode cX4_thrown 1 = .ok (.getfield 7, 3) := by decide +kernel
theorem dX4_thrown_4 : decode cX4_thrown 4 = .ok (.ireturn, 1) := by decide +kernel
