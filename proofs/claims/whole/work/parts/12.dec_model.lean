theorem dX11_init_0 : decode cX11_init 0 = .ok (.aload_n 0, 1) := by decide +kernel
theorem dX11_init_1 : decode cX11_init 1 = .ok (.invokespecial 1, 3) := by decide +kernel
theorem dX11_init_4 : decode cX11_init 4 = .ok (.aload_n 0, 1) := by decide +kernel
theorem dX11_init_5 : decode cX11_init 5 = .ok (.iconst (-1), 1) := by decide +kernel
theorem dX11_init_6 : decode cX11_init 6 = .ok (.putfield 9, 3) := by decide +kernel
theorem dX11_init_9 : decode cX11_init 9 = .ok (.aload_n 0, 1) := by decide +kernel
theorem dX11_init_10 : decode cX11_init 10 = .ok (.sipush 600, 3) := by decide +kernel
theorem dX11_init_13 : decode cX11_init 13 = .ok (.newarray .int, 2) := by decide +kernel
theorem dX11_init_15 : decode cX11_init 15 = .ok (.putfield 13, 3) := by decide +kernel
theorem dX11_init_18 : decode cX11_init 18 = .ok (.aload_n 0, 1) := by decide +kernel
theorem dX11_init_19 : decode cX11_init 19 = .ok (.bipush 6, 2) := by decide +kernel
theorem dX11_init_21 : decode cX11_init 21 = .ok (.newarray .int, 2) := by decide +kernel
theorem dX11_init_23 : decode cX11_init 23 = .ok (.putfield 17, 3) := by decide +kernel
theorem dX11_init_26 : decode cX11_init 26 = .ok (.aload_n 0, 1) := by decide +kernel
theorem dX11_init_27 : decode cX11_init 27 = .ok (.bipush 6, 2) := by decide +kernel
theorem dX11_init_29 : decode cX11_init 29 = .ok (.newarray .int, 2) := by decide +kernel
theorem dX11_init_31 : decode cX11_init 31 = .ok (.putfield 20, 3) := by decide +kernel
theorem dX11_init_34 : decode cX11_init 34 = .ok (.aload_n 0, 1) := by decide +kernel
theorem dX11_init_35 : decode cX11_init 35 = .ok (.bipush 8, 2) := by decide +kernel
theorem dX11_init_37 : decode cX11_init 37 = .ok (.newarray .int, 2) := by decide +kernel
theorem dX11_init_39 : decode cX11_init 39 = .ok (.putfield 23, 3) := by decide +kernel
theorem dX11_init_42 : decode cX11_init 42 = .ok (.aload_n 0, 1) := by decide +kernel
theorem dX11_init_43 : decode cX11_init 43 = .ok (.bipush 8, 2) := by decide +kernel
theorem dX11_init_45 : decode cX11_init 45 = .ok (.newarray .int, 2) := by decide +kernel
theorem dX11_init_47 : decode cX11_init 47 = .ok (.putfield 26, 3) := by decide +kernel
theorem dX11_init_50 : decode cX11_init 50 = .ok (.aload_n 0, 1) := by decide +kernel
theorem dX11_init_51 : decode cX11_init 51 = .ok (.bipush 10, 2) := by decide +kernel
theorem dX11_init_53 : decode cX11_init 53 = .ok (.iconst 5, 1) := by decide +kernel
theorem dX11_init_54 : decode cX11_init 54 = .ok (.multianewarray 29 2, 4) := by decide +kernel
theorem dX11_init_58 : decode cX11_init 58 = .ok (.putfield 31, 3) := by decide +kernel
theorem dX11_init_61 : decode cX11_init 61 = .ok (.aload_n 0, 1) := by decide +kernel
theorem dX11_init_62 : decode cX11_init 62 = .ok (.bipush 11, 2) := by decide +kernel
theorem dX11_init_64 : decode cX11_init 64 = .ok (.iconst 5, 1) := by decide +kernel
theorem dX11_init_65 : decode cX11_init 65 = .ok (.multianewarray 29 2, 4) := by decide +kernel
theorem dX11_init_69 : decode cX11_init 69 = .ok (.putfield 34, 3) := by decide +kernel
theorem dX11_init_72 : decode cX11_init 72 = .ok (.aload_n 0, 1) := by decide +kernel
theorem dX11_init_73 : decode cX11_init 73 = .ok (.iconst 4, 1) := by decide +kernel
theorem dX11_init_74 : decode cX11_init 74 = .ok (.iconst 5, 1) := by decide +kernel
theorem dX11_init_75 : decode cX11_init 75 = .ok (.multianewarray 29 2, 4) := by decide +kernel
theorem dX11_init_79 : decode cX11_init 79 = .ok (.putfield 37, 3) := by decide +kernel
theorem dX11_init_82 : decode cX11_init 82 = .ok (.aload_n 0, 1) := by decide +kernel
theorem dX11_init_83 : decode cX11_init 83 = .ok (.iconst 4, 1) := by decide +kernel
theorem dX11_init_84 : decode cX11_init 84 = .ok (.iconst 5, 1) := by decide +kernel
theorem dX11_init_85 : decode cX11_init 85 = .ok (.multianewarray 29 2, 4) := by decide +kernel
theorem dX11_init_89 : decode cX11_init 89 = .ok (.putfield 40, 3) := by decide +kernel
theorem dX11_init_92 : decode cX11_init 92 = .ok (.aload_n 0, 1) := by decide +kernel
theorem dX11_init_93 : decode cX11_init 93 = .ok (.bipush 14, 2) := by decide +kernel
theorem dX11_init_95 : decode cX11_init 95 = .ok (.bipush 6, 2) := by decide +kernel
theorem dX11_init_97 : decode cX11_init 97 = .ok (.multianewarray 29 2, 4) := by decide +kernel
theorem dX11_init_101 : decode cX11_init 101 = .ok (.putfield 43, 3) := by decide +kernel
theorem dX11_init_104 : decode cX11_init 104 = .ok (.aload_n 0, 1) := by decide +kernel
theorem dX11_init_105 : decode cX11_init 105 = .ok (.bipush 14, 2) := by decide +kernel
theorem dX11_init_107 : decode cX11_init 107 = .ok (.bipush 6, 2) := by decide +kernel
theorem dX11_init_109 : decode cX11_init 109 = .ok (.multianewarray 29 2, 4) := by decide +kernel
theorem dX11_init_113 : decode cX11_init 113 = .ok (.putfield 46, 3) := by decide +kernel
theorem dX11_init_116 : decode cX11_init 116 = .ok (.aload_n 0, 1) := by decide +kernel
theorem dX11_init_117 : decode cX11_init 117 = .ok (.bipush 11, 2) := by decide +kernel
theorem dX11_init_119 : decode cX11_init 119 = .ok (.newarray .int, 2) := by decide +kernel
theorem dX11_init_121 : decode cX11_init 121 = .ok (.putfield 49, 3) := by decide +kernel
theorem dX11_init_124 : decode cX11_init 124 = .ok (.aload_n 0, 1) := by decide +kernel
theorem dX11_init_125 : decode cX11_init 125 = .ok (.bipush 11, 2) := by decide +kernel
theorem dX11_init_127 : decode cX11_init 127 = .ok (.newarray .int, 2) := by decide +kernel
theorem dX11_init_129 : decode cX11_init 129 = .ok (.putfield 52, 3) := by decide +kernel
theorem dX11_init_132 : decode cX11_init 132 = .ok (.aload_n 0, 1) := by decide +kernel
theorem dX11_init_133 : decode cX11_init 133 = .ok (.bipush 30, 2) := by decide +kernel
theorem dX11_init_135 : decode cX11_init 135 = .ok (.newarray .int, 2) := by decide +kernel
theorem dX11_init_137 : decode cX11_init 137 = .ok (.putfield 55, 3) := by decide +kernel
theorem dX11_init_140 : decode cX11_init 140 = .ok (.aload_n 0, 1) := by decide +kernel
theorem dX11_init_141 : decode cX11_init 141 = .ok (.iconst 3, 1) := by decide +kernel
theorem dX11_init_142 : decode cX11_init 142 = .ok (.bipush 60, 2) := by decide +kernel
theorem dX11_init_144 : decode cX11_init 144 = .ok (.multianewarray 29 2, 4) := by decide +kernel
theorem dX11_init_148 : decode cX11_init 148 = .ok (.putfield 58, 3) := by decide +kernel
theorem dX11_init_151 : decode cX11_init 151 = .ok (.aload_n 0, 1) := by decide +kernel
theorem dX11_init_152 : decode cX11_init 152 = .ok (.bipush 11, 2) := by decide +kernel
theorem dX11_init_154 : decode cX11_init 154 = .ok (.newarray .int, 2) := by decide +kernel
theorem dX11_init_156 : decode cX11_init 156 = .ok (.putfield 61, 3) := by decide +kernel
theorem dX11_init_159 : decode cX11_init 159 = .ok (.aload_n 0, 1) := by decide +kernel
theorem dX11_init_160 : decode cX11_init 160 = .ok (.bipush 11, 2) := by decide +kernel
theorem dX11_init_162 : decode cX11_init 162 = .ok (.newarray .int, 2) := by decide +kernel
theorem dX11_init_164 : decode cX11_init 164 = .ok (.putfield 64, 3) := by decide +kernel
theorem dX11_init_167 : decode cX11_init 167 = .ok (.aload_n 0, 1) := by decide +kernel
theorem dX11_init_168 : decode cX11_init 168 = .ok (.bipush 11, 2) := by decide +kernel
theorem dX11_init_170 : decode cX11_init 170 = .ok (.newarray .int, 2) := by decide +kernel
theorem dX11_init_172 : decode cX11_init 172 = .ok (.putfield 67, 3) := by decide +kernel
theorem dX11_init_175 : decode cX11_init 175 = .ok (.aload_n 0, 1) := by decide +kernel
theorem dX11_init_176 : decode cX11_init 176 = .ok (.iconst (-1), 1) := by decide +kernel
theorem dX11_init_177 : decode cX11_init 177 = .ok (.putfield 70, 3) := by decide +kernel
theorem dX11_init_180 : decode cX11_init 180 = .ok (.aload_n 0, 1) := by decide +kernel
theorem dX11_init_181 : decode cX11_init 181 = .ok (.iconst (-1), 1) := by decide +kernel
theorem dX11_init_182 : decode cX11_init 182 = .ok (.putfield 73, 3) := by decide +kernel
theorem dX11_init_185 : decode cX11_init 185 = .ok (.aload_n 0, 1) := by decide +kernel
theorem dX11_init_186 : decode cX11_init 186 = .ok (.iconst (-1), 1) := by decide +kernel
theorem dX11_init_187 : decode cX11_init 187 = .ok (.putfield 76, 3) := by decide +kernel
theorem dX11_init_190 : decode cX11_init 190 = .ok (.aload_n 0, 1) := by decide +kernel
theorem dX11_init_191 : decode cX11_init 191 = .ok (.iconst (-1), 1) := by decide +kernel
theorem dX11_init_192 : decode cX11_init 192 = .ok (.putfield 79, 3) := by decide +kernel
theorem dX11_init_195 : decode cX11_init 195 = .ok (.aload_n 0, 1) := by decide +kernel
theorem dX11_init_196 : decode cX11_init 196 = .ok (.bipush 12, 2) := by decide +kernel
theorem dX11_init_198 : decode cX11_init 198 = .ok (.newarray .int, 2) := by decide +kernel
theorem dX11_init_200 : decode cX11_init 200 = .ok (.putfield 82, 3) := by decide +kernel
theorem dX11_init_203 : decode cX11_init 203 = .ok (.aload_n 0, 1) := by decide +kernel
theorem dX11_init_204 : decode cX11_init 204 = .ok (.bipush 12, 2) := by decide +kernel
theorem dX11_init_206 : decode cX11_init 206 = .ok (.newarray .int, 2) := by decide +kernel
theorem dX11_init_208 : decode cX11_init 208 = .ok (.putfield 85, 3) := by decide +kernel
theorem dX11_init_211 : decode cX11_init 211 = .ok (.aload_n 0, 1) := by decide +kernel
theorem dX11_init_212 : decode cX11_init 212 = .ok (.iconst (-1), 1) := by decide +kernel
theorem dX11_init_213 : decode cX11_init 213 = .ok (.putfield 88, 3) := by decide +kernel
theorem dX11_init_216 : decode cX11_init 216 = .ok (.aload_n 0, 1) := by decide +kernel
theorem dX11_init_217 : decode cX11_init 217 = .ok (.sipush 4001, 3) := by decide +kernel
theorem dX11_init_220 : decode cX11_init 220 = .ok (.newarray .long, 2) := by decide +kernel
theorem dX11_init_222 : decode cX11_init 222 = .ok (.putfield 91, 3) := by decide +kernel
theorem dX11_init_225 : decode cX11_init 225 = .ok (.aload_n 0, 1) := by decide +kernel
theorem dX11_init_226 : decode cX11_init 226 = .ok (.sipush 4001, 3) := by decide +kernel
theorem dX11_init_229 : decode cX11_init 229 = .ok (.newarray .long, 2) := by decide +kernel
theorem dX11_init_231 : decode cX11_init 231 = .ok (.putfield 95, 3) := by decide +kernel
theorem dX11_init_234 : decode cX11_init 234 = .ok (.aload_n 0, 1) := by decide +kernel
theorem dX11_init_235 : decode cX11_init 235 = .ok (.iconst 4, 1) := by decide +kernel
theorem dX11_init_236 : decode cX11_init 236 = .ok (.bipush 11, 2) := by decide +kernel
theorem dX11_init_238 : decode cX11_init 238 = .ok (.multianewarray 29 2, 4) := by decide +kernel
theorem dX11_init_242 : decode cX11_init 242 = .ok (.putfield 98, 3) := by decide +kernel
theorem dX11_init_245 : decode cX11_init 245 = .ok (.aload_n 0, 1) := by decide +kernel
theorem dX11_init_246 : decode cX11_init 246 = .ok (.iconst 4, 1) := by decide +kernel
theorem dX11_init_247 : decode cX11_init 247 = .ok (.bipush 11, 2) := by decide +kernel
theorem dX11_init_249 : decode cX11_init 249 = .ok (.multianewarray 29 2, 4) := by decide +kernel
theorem dX11_init_253 : decode cX11_init 253 = .ok (.putfield 101, 3) := by decide +kernel
theorem dX11_init_256 : decode cX11_init 256 = .ok (.aload_n 0, 1) := by decide +kernel
theorem dX11_init_257 : decode cX11_init 257 = .ok (.getfield 20, 3) := by decide +kernel
theorem dX11_init_260 : decode cX11_init 260 = .ok (.iconst 0, 1) := by decide +kernel
theorem dX11_init_261 : decode cX11_init 261 = .ok (.iconst 4, 1) := by decide +kernel
theorem dX11_init_262 : decode cX11_init 262 = .ok (.iastore, 1) := by decide +kernel
theorem dX11_init_263 : decode cX11_init 263 = .ok (.aload_n 0, 1) := by decide +kernel
theorem dX11_init_264 : decode cX11_init 264 = .ok (.getfield 20, 3) := by decide +kernel
theorem dX11_init_267 : decode cX11_init 267 = .ok (.iconst 5, 1) := by decide +kernel
theorem dX11_init_268 : decode cX11_init 268 = .ok (.bipush 9, 2) := by decide +kernel
theorem dX11_init_270 : decode cX11_init 270 = .ok (.iastore, 1) := by decide +kernel
theorem dX11_init_271 : decode cX11_init 271 = .ok (.return_, 1) := by decide +kernel
theorem dX11_thrown_0 : decode cX11_thrown 0 = .ok (.aload_n 0, 1) := by decide +kernel
theorem dX11_thrown_1 : decode cX11_thrown 1 = .ok (.getfield 104, 3) := by decide +kernel
theorem dX11_thrown_4 : decode cX11_thrown 4 = .ok (.ireturn, 1) := by decide +kernel
theorem dX11_bad_0 : decode cX11_bad 0 = .ok (.iload_n 1, 1) := by decide +kernel
theorem dX11_bad_1 : decode cX11_bad 1 = .ok (.ifCond .eq 15, 3) := by decide +kernel
theorem dX11_bad_4 : decode cX11_bad 4 = .ok (.aload_n 0, 1) := by decide +kernel
theorem dX11_bad_5 : decode cX11_bad 5 = .ok (.getfield 104, 3) := by decide +kernel
theorem dX11_bad_8 : decode cX11_bad 8 = .ok (.ifCond .ne 8, 3) := by decide +kernel
theorem dX11_bad_11 : decode cX11_bad 11 = .ok (.aload_n 0, 1) := by decide +kernel
theorem dX11_bad_12 : decode cX11_bad 12 = .ok (.iload_n 2, 1) := by decide +kernel
theorem dX11_bad_13 : decode cX11_bad 13 = .ok (.putfield 104, 3) := by decide +kernel
theorem dX11_bad_16 : decode cX11_bad 16 = .ok (.aload_n 0, 1) := by decide +kernel
theorem dX11_bad_17 : decode cX11_bad 17 = .ok (.getfield 104, 3) := by decide +kernel
theorem dX11_bad_20 : decode cX11_bad 20 = .ok (.ifCond .eq 7, 3) := by decide +kernel
theorem dX11_bad_23 : decode cX11_bad 23 = .ok (.iconst 1, 1) := by decide +kernel
theorem dX11_bad_24 : decode cX11_bad 24 = .ok (.goto 4, 3) := by decide +kernel
theorem dX11_bad_27 : decode cX11_bad 27 = .ok (.iconst 0, 1) := by decide +kernel
theorem dX11_bad_28 : decode cX11_bad 28 = .ok (.ireturn, 1) := by decide +kernel
theorem dX11_in_0 : decode cX11_in 0 = .ok (.iload_n 0, 1) := by decide +kernel
theorem dX11_in_1 : decode cX11_in 1 = .ok (.iload_n 1, 1) := by decide +kernel
theorem dX11_in_2 : decode cX11_in 2 = .ok (.if_icmp .lt 12, 3) := by decide +kernel
theorem dX11_in_5 : decode cX11_in 5 = .ok (.iload_n 0, 1) := by decide +kernel
theorem dX11_in_6 : decode cX11_in 6 = .ok (.iload_n 2, 1) := by decide +kernel
theorem dX11_in_7 : decode cX11_in 7 = .ok (.if_icmp .gt 7, 3) := by decide +kernel
theorem dX11_in_10 : decode cX11_in 10 = .ok (.iconst 1, 1) := by decide +kernel
theorem dX11_in_11 : decode cX11_in 11 = .ok (.goto 4, 3) := by decide +kernel
theorem dX11_in_14 : decode cX11_in 14 = .ok (.iconst 0, 1) := by decide +kernel
theorem dX11_in_15 : decode cX11_in 15 = .ok (.ireturn, 1) := by decide +kernel
theorem dX11_feed_0 : decode cX11_feed 0 = .ok (.aload_n 0, 1) := by decide +kernel
theorem dX11_feed_1 : decode cX11_feed 1 = .ok (.iconst 0, 1) := by decide +kernel
theorem dX11_feed_2 : decode cX11_feed 2 = .ok (.putfield 104, 3) := by decide +kernel
theorem dX11_feed_5 : decode cX11_feed 5 = .ok (.aload_n 0, 1) := by decide +kernel
theorem dX11_feed_6 : decode cX11_feed 6 = .ok (.getfield 107, 3) := by decide +kernel
theorem dX11_feed_9 : decode cX11_feed 9 = .ok (.bipush 20, 2) := by decide +kernel
theorem dX11_feed_11 : decode cX11_feed 11 = .ok (.iadd, 1) := by decide +kernel
theorem dX11_feed_12 : decode cX11_feed 12 = .ok (.sipush 600, 3) := by decide +kernel
theorem dX11_feed_15 : decode cX11_feed 15 = .ok (.if_icmp .le 5, 3) := by decide +kernel
theorem dX11_feed_18 : decode cX11_feed 18 = .ok (.iconst (-1), 1) := by decide +kernel
theorem dX11_feed_19 : decode cX11_feed 19 = .ok (.ireturn, 1) := by decide +kernel
theorem dX11_feed_20 : decode cX11_feed 20 = .ok (.iconst 0, 1) := by decide +kernel
theorem dX11_feed_21 : decode cX11_feed 21 = .ok (.istore 6, 2) := by decide +kernel
theorem dX11_feed_23 : decode cX11_feed 23 = .ok (.iload 6, 2) := by decide +kernel
theorem dX11_feed_25 : decode cX11_feed 25 = .ok (.bipush 20, 2) := by decide +kernel
theorem dX11_feed_27 : decode cX11_feed 27 = .ok (.if_icmp .ge 93, 3) := by decide +kernel
theorem dX11_feed_30 : decode cX11_feed 30 = .ok (.iload 6, 2) := by decide +kernel
theorem dX11_feed_32 : decode cX11_feed 32 = .ok (.iconst 4, 1) := by decide +kernel
theorem dX11_feed_33 : decode cX11_feed 33 = .ok (.if_icmp .ge 7, 3) := by decide +kernel
theorem dX11_feed_36 : decode cX11_feed 36 = .ok (.iload_n 1, 1) := by decide +kernel
theorem dX11_feed_37 : decode cX11_feed 37 = .ok (.goto 39, 3) := by decide +kernel
theorem dX11_feed_40 : decode cX11_feed 40 = .ok (.iload 6, 2) := by decide +kernel
theorem dX11_feed_42 : decode cX11_feed 42 = .ok (.bipush 8, 2) := by decide +kernel
theorem dX11_feed_44 : decode cX11_feed 44 = .ok (.if_icmp .ge 7, 3) := by decide +kernel
theorem dX11_feed_47 : decode cX11_feed 47 = .ok (.iload_n 2, 1) := by decide +kernel
theorem dX11_feed_48 : decode cX11_feed 48 = .ok (.goto 28, 3) := by decide +kernel
theorem dX11_feed_51 : decode cX11_feed 51 = .ok (.iload 6, 2) := by decide +kernel
theorem dX11_feed_53 : decode cX11_feed 53 = .ok (.bipush 12, 2) := by decide +kernel
theorem dX11_feed_55 : decode cX11_feed 55 = .ok (.if_icmp .ge 7, 3) := by decide +kernel
theorem dX11_feed_58 : decode cX11_feed 58 = .ok (.iload_n 3, 1) := by decide +kernel
theorem dX11_feed_59 : decode cX11_feed 59 = .ok (.goto 17, 3) := by decide +kernel
theorem dX11_feed_62 : decode cX11_feed 62 = .ok (.iload 6, 2) := by decide +kernel
theorem dX11_feed_64 : decode cX11_feed 64 = .ok (.bipush 16, 2) := by decide +kernel
theorem dX11_feed_66 : decode cX11_feed 66 = .ok (.if_icmp .ge 8, 3) := by decide +kernel
theorem dX11_feed_69 : decode cX11_feed 69 = .ok (.iload 4, 2) := by decide +kernel
theorem dX11_feed_71 : decode cX11_feed 71 = .ok (.goto 5, 3) := by decide +kernel
theorem dX11_feed_74 : decode cX11_feed 74 = .ok (.iload 5, 2) := by decide +kernel
theorem dX11_feed_76 : decode cX11_feed 76 = .ok (.istore 7, 2) := by decide +kernel
theorem dX11_feed_78 : decode cX11_feed 78 = .ok (.aload_n 0, 1) := by decide +kernel
theorem dX11_feed_79 : decode cX11_feed 79 = .ok (.getfield 13, 3) := by decide +kernel
theorem dX11_feed_82 : decode cX11_feed 82 = .ok (.aload_n 0, 1) := by decide +kernel
theorem dX11_feed_83 : decode cX11_feed 83 = .ok (.getfield 107, 3) := by decide +kernel
theorem dX11_feed_86 : decode cX11_feed 86 = .ok (.iload 7, 2) := by decide +kernel
theorem dX11_feed_88 : decode cX11_feed 88 = .ok (.bipush 24, 2) := by decide +kernel
theorem dX11_feed_90 : decode cX11_feed 90 = .ok (.bipush 8, 2) := by decide +kernel
theorem dX11_feed_92 : decode cX11_feed 92 = .ok (.iload 6, 2) := by decide +kernel
theorem dX11_feed_94 : decode cX11_feed 94 = .ok (.iconst 4, 1) := by decide +kernel
theorem dX11_feed_95 : decode cX11_feed 95 = .ok (.irem, 1) := by decide +kernel
theorem dX11_feed_96 : decode cX11_feed 96 = .ok (.imul, 1) := by decide +kernel
theorem dX11_feed_97 : decode cX11_feed 97 = .ok (.isub, 1) := by decide +kernel
theorem dX11_feed_98 : decode cX11_feed 98 = .ok (.ishr, 1) := by decide +kernel
theorem dX11_feed_99 : decode cX11_feed 99 = .ok (.sipush 255, 3) := by decide +kernel
theorem dX11_feed_102 : decode cX11_feed 102 = .ok (.iand, 1) := by decide +kernel
theorem dX11_feed_103 : decode cX11_feed 103 = .ok (.iastore, 1) := by decide +kernel
theorem dX11_feed_104 : decode cX11_feed 104 = .ok (.aload_n 0, 1) := by decide +kernel
theorem dX11_feed_105 : decode cX11_feed 105 = .ok (.dup, 1) := by decide +kernel
theorem dX11_feed_106 : decode cX11_feed 106 = .ok (.getfield 107, 3) := by decide +kernel
theorem dX11_feed_109 : decode cX11_feed 109 = .ok (.iconst 1, 1) := by decide +kernel
theorem dX11_feed_110 : decode cX11_feed 110 = .ok (.iadd, 1) := by decide +kernel
theorem dX11_feed_111 : decode cX11_feed 111 = .ok (.putfield 107, 3) := by decide +kernel
theorem dX11_feed_114 : decode cX11_feed 114 = .ok (.iinc 6 1, 3) := by decide +kernel
theorem dX11_feed_117 : decode cX11_feed 117 = .ok (.goto (-94), 3) := by decide +kernel
theorem dX11_feed_120 : decode cX11_feed 120 = .ok (.aload_n 0, 1) := by decide +kernel
theorem dX11_feed_121 : decode cX11_feed 121 = .ok (.getfield 107, 3) := by decide +kernel
theorem dX11_feed_124 : decode cX11_feed 124 = .ok (.ireturn, 1) := by decide +kernel
theorem dX11_byteAt_0 : decode cX11_byteAt 0 = .ok (.iload_n 1, 1) := by decide +kernel
theorem dX11_byteAt_1 : decode cX11_byteAt 1 = .ok (.aload_n 0, 1) := by decide +kernel
theorem dX11_byteAt_2 : decode cX11_byteAt 2 = .ok (.getfield 110, 3) := by decide +kernel
theorem dX11_byteAt_5 : decode cX11_byteAt 5 = .ok (.if_icmp .lt 7, 3) := by decide +kernel
theorem dX11_byteAt_8 : decode cX11_byteAt 8 = .ok (.iconst (-1), 1) := by decide +kernel
theorem dX11_byteAt_9 : decode cX11_byteAt 9 = .ok (.goto 9, 3) := by decide +kernel
theorem dX11_byteAt_12 : decode cX11_byteAt 12 = .ok (.aload_n 0, 1) := by decide +kernel
theorem dX11_byteAt_13 : decode cX11_byteAt 13 = .ok (.getfield 13, 3) := by decide +kernel
theorem dX11_byteAt_16 : decode cX11_byteAt 16 = .ok (.iload_n 1, 1) := by decide +kernel
theorem dX11_byteAt_17 : decode cX11_byteAt 17 = .ok (.iaload, 1) := by decide +kernel
theorem dX11_byteAt_18 : decode cX11_byteAt 18 = .ok (.ireturn, 1) := by decide +kernel
theorem dX11_blanks_0 : decode cX11_blanks 0 = .ok (.aload_n 0, 1) := by decide +kernel
theorem dX11_blanks_1 : decode cX11_blanks 1 = .ok (.aload_n 0, 1) := by decide +kernel
theorem dX11_blanks_2 : decode cX11_blanks 2 = .ok (.getfield 113, 3) := by decide +kernel
theorem dX11_blanks_5 : decode cX11_blanks 5 = .ok (.invokevirtual 116, 3) := by decide +kernel
theorem dX11_blanks_8 : decode cX11_blanks 8 = .ok (.bipush 32, 2) := by decide +kernel
theorem dX11_blanks_10 : decode cX11_blanks 10 = .ok (.if_icmp .ne 16, 3) := by decide +kernel
theorem dX11_blanks_13 : decode cX11_blanks 13 = .ok (.aload_n 0, 1) := by decide +kernel
theorem dX11_blanks_14 : decode cX11_blanks 14 = .ok (.dup, 1) := by decide +kernel
theorem dX11_blanks_15 : decode cX11_blanks 15 = .ok (.getfield 113, 3) := by decide +kernel
theorem dX11_blanks_18 : decode cX11_blanks 18 = .ok (.iconst 1, 1) := by decide +kernel
theorem dX11_blanks_19 : decode cX11_blanks 19 = .ok (.iadd, 1) := by decide +kernel
theorem dX11_blanks_20 : decode cX11_blanks 20 = .ok (.putfield 113, 3) := by decide +kernel
theorem dX11_blanks_23 : decode cX11_blanks 23 = .ok (.goto (-23), 3) := by decide +kernel
theorem dX11_blanks_26 : decode cX11_blanks 26 = .ok (.return_, 1) := by decide +kernel
theorem dX11_wrong_0 : decode cX11_wrong 0 = .ok (.aload_n 0, 1) := by decide +kernel
theorem dX11_wrong_1 : decode cX11_wrong 1 = .ok (.getfield 120, 3) := by decide +kernel
theorem dX11_wrong_4 : decode cX11_wrong 4 = .ok (.ifCond .ne 13, 3) := by decide +kernel
theorem dX11_wrong_7 : decode cX11_wrong 7 = .ok (.aload_n 0, 1) := by decide +kernel
theorem dX11_wrong_8 : decode cX11_wrong 8 = .ok (.iload_n 1, 1) := by decide +kernel
theorem dX11_wrong_9 : decode cX11_wrong 9 = .ok (.putfield 120, 3) := by decide +kernel
theorem dX11_wrong_12 : decode cX11_wrong 12 = .ok (.aload_n 0, 1) := by decide +kernel
theorem dX11_wrong_13 : decode cX11_wrong 13 = .ok (.iload_n 2, 1) := by decide +kernel
theorem dX11_wrong_14 : decode cX11_wrong 14 = .ok (.putfield 123, 3) := by decide +kernel
theorem dX11_wrong_17 : decode cX11_wrong 17 = .ok (.return_, 1) := by decide +kernel
theorem dX11_isDigit_0 : decode cX11_isDigit 0 = .ok (.iload_n 0, 1) := by decide +kernel
theorem dX11_isDigit_1 : decode cX11_isDigit 1 = .ok (.bipush 48, 2) := by decide +kernel
theorem dX11_isDigit_3 : decode cX11_isDigit 3 = .ok (.if_icmp .lt 13, 3) := by decide +kernel
theorem dX11_isDigit_6 : decode cX11_isDigit 6 = .ok (.iload_n 0, 1) := by decide +kernel
theorem dX11_isDigit_7 : decode cX11_isDigit 7 = .ok (.bipush 57, 2) := by decide +kernel
theorem dX11_isDigit_9 : decode cX11_isDigit 9 = .ok (.if_icmp .gt 7, 3) := by decide +kernel
theorem dX11_isDigit_12 : decode cX11_isDigit 12 = .ok (.iconst 1, 1) := by decide +kernel
theorem dX11_isDigit_13 : decode cX11_isDigit 13 = .ok (.goto 4, 3) := by decide +kernel
theorem dX11_isDigit_16 : decode cX11_isDigit 16 = .ok (.iconst 0, 1) := by decide +kernel
theorem dX11_isDigit_17 : decode cX11_isDigit 17 = .ok (.ireturn, 1) := by decide +kernel
theorem dX11_number_0 : decode cX11_number 0 = .ok (.aload_n 0, 1) := by decide +kernel
theorem dX11_number_1 : decode cX11_number 1 = .ok (.getfield 120, 3) := by decide +kernel
theorem dX11_number_4 : decode cX11_number 4 = .ok (.ifCond .eq 5, 3) := by decide +kernel
theorem dX11_number_7 : decode cX11_number 7 = .ok (.iconst 0, 1) := by decide +kernel
theorem dX11_number_8 : decode cX11_number 8 = .ok (.ireturn, 1) := by decide +kernel
theorem dX11_number_9 : decode cX11_number 9 = .ok (.aload_n 0, 1) := by decide +kernel
theorem dX11_number_10 : decode cX11_number 10 = .ok (.invokevirtual 126, 3) := by decide +kernel
theorem dX11_number_13 : decode cX11_number 13 = .ok (.aload_n 0, 1) := by decide +kernel
theorem dX11_number_14 : decode cX11_number 14 = .ok (.getfield 113, 3) := by decide +kernel
theorem dX11_number_17 : decode cX11_number 17 = .ok (.istore 4, 2) := by decide +kernel
theorem dX11_number_19 : decode cX11_number 19 = .ok (.iconst 0, 1) := by decide +kernel
theorem dX11_number_20 : decode cX11_number 20 = .ok (.istore 5, 2) := by decide +kernel
theorem dX11_number_22 : decode cX11_number 22 = .ok (.aload_n 0, 1) := by decide +kernel
theorem dX11_number_23 : decode cX11_number 23 = .ok (.aload_n 0, 1) := by decide +kernel
theorem dX11_number_24 : decode cX11_number 24 = .ok (.getfield 113, 3) := by decide +kernel
theorem dX11_number_27 : decode cX11_number 27 = .ok (.invokevirtual 116, 3) := by decide +kernel
theorem dX11_number_30 : decode cX11_number 30 = .ok (.invokestatic 129, 3) := by decide +kernel
theorem dX11_number_33 : decode cX11_number 33 = .ok (.ifCond .ne 12, 3) := by decide +kernel
theorem dX11_number_36 : decode cX11_number 36 = .ok (.aload_n 0, 1) := by decide +kernel
theorem dX11_number_37 : decode cX11_number 37 = .ok (.iconst 1, 1) := by decide +kernel
theorem dX11_number_38 : decode cX11_number 38 = .ok (.aload_n 0, 1) := by decide +kernel
theorem dX11_number_39 : decode cX11_number 39 = .ok (.getfield 113, 3) := by decide +kernel
theorem dX11_number_42 : decode cX11_number 42 = .ok (.invokevirtual 133, 3) := by decide +kernel
theorem dX11_number_45 : decode cX11_number 45 = .ok (.aload_n 0, 1) := by decide +kernel
theorem dX11_number_46 : decode cX11_number 46 = .ok (.aload_n 0, 1) := by decide +kernel
theorem dX11_number_47 : decode cX11_number 47 = .ok (.getfield 113, 3) := by decide +kernel
theorem dX11_number_50 : decode cX11_number 50 = .ok (.invokevirtual 116, 3) := by decide +kernel
theorem dX11_number_53 : decode cX11_number 53 = .ok (.invokestatic 129, 3) := by decide +kernel
theorem dX11_number_56 : decode cX11_number 56 = .ok (.ifCond .eq 51, 3) := by decide +kernel
theorem dX11_number_59 : decode cX11_number 59 = .ok (.bipush 10, 2) := by decide +kernel
theorem dX11_number_61 : decode cX11_number 61 = .ok (.iload 5, 2) := by decide +kernel
theorem dX11_number_63 : decode cX11_number 63 = .ok (.imul, 1) := by decide +kernel
theorem dX11_number_64 : decode cX11_number 64 = .ok (.aload_n 0, 1) := by decide +kernel
theorem dX11_number_65 : decode cX11_number 65 = .ok (.aload_n 0, 1) := by decide +kernel
theorem dX11_number_66 : decode cX11_number 66 = .ok (.getfield 113, 3) := by decide +kernel
theorem dX11_number_69 : decode cX11_number 69 = .ok (.invokevirtual 116, 3) := by decide +kernel
theorem dX11_number_72 : decode cX11_number 72 = .ok (.iadd, 1) := by decide +kernel
theorem dX11_number_73 : decode cX11_number 73 = .ok (.bipush 48, 2) := by decide +kernel
theorem dX11_number_75 : decode cX11_number 75 = .ok (.isub, 1) := by decide +kernel
theorem dX11_number_76 : decode cX11_number 76 = .ok (.istore 5, 2) := by decide +kernel
theorem dX11_number_78 : decode cX11_number 78 = .ok (.iload 5, 2) := by decide +kernel
theorem dX11_number_80 : decode cX11_number 80 = .ok (.ldc 137, 2) := by decide +kernel
theorem dX11_number_82 : decode cX11_number 82 = .ok (.if_icmp .le 8, 3) := by decide +kernel
theorem dX11_number_85 : decode cX11_number 85 = .ok (.ldc 137, 2) := by decide +kernel
theorem dX11_number_87 : decode cX11_number 87 = .ok (.goto 5, 3) := by decide +kernel
theorem dX11_number_90 : decode cX11_number 90 = .ok (.iload 5, 2) := by decide +kernel
theorem dX11_number_92 : decode cX11_number 92 = .ok (.istore 5, 2) := by decide +kernel
theorem dX11_number_94 : decode cX11_number 94 = .ok (.aload_n 0, 1) := by decide +kernel
theorem dX11_number_95 : decode cX11_number 95 = .ok (.dup, 1) := by decide +kernel
theorem dX11_number_96 : decode cX11_number 96 = .ok (.getfield 113, 3) := by decide +kernel
theorem dX11_number_99 : decode cX11_number 99 = .ok (.iconst 1, 1) := by decide +kernel
theorem dX11_number_100 : decode cX11_number 100 = .ok (.iadd, 1) := by decide +kernel
theorem dX11_number_101 : decode cX11_number 101 = .ok (.putfield 113, 3) := by decide +kernel
theorem dX11_number_104 : decode cX11_number 104 = .ok (.goto (-59), 3) := by decide +kernel
theorem dX11_number_107 : decode cX11_number 107 = .ok (.iload 5, 2) := by decide +kernel
theorem dX11_number_109 : decode cX11_number 109 = .ok (.iload_n 1, 1) := by decide +kernel
theorem dX11_number_110 : decode cX11_number 110 = .ok (.iload_n 2, 1) := by decide +kernel
theorem dX11_number_111 : decode cX11_number 111 = .ok (.invokestatic 138, 3) := by decide +kernel
theorem dX11_number_114 : decode cX11_number 114 = .ok (.ifCond .eq 9, 3) := by decide +kernel
theorem dX11_number_117 : decode cX11_number 117 = .ok (.iload 5, 2) := by decide +kernel
theorem dX11_number_119 : decode cX11_number 119 = .ok (.iload_n 3, 1) := by decide +kernel
theorem dX11_number_120 : decode cX11_number 120 = .ok (.if_icmp .ne 10, 3) := by decide +kernel
theorem dX11_number_123 : decode cX11_number 123 = .ok (.aload_n 0, 1) := by decide +kernel
theorem dX11_number_124 : decode cX11_number 124 = .ok (.iconst 2, 1) := by decide +kernel
theorem dX11_number_125 : decode cX11_number 125 = .ok (.iload 4, 2) := by decide +kernel
theorem dX11_number_127 : decode cX11_number 127 = .ok (.invokevirtual 133, 3) := by decide +kernel
theorem dX11_number_130 : decode cX11_number 130 = .ok (.aload_n 0, 1) := by decide +kernel
theorem dX11_number_131 : decode cX11_number 131 = .ok (.getfield 120, 3) := by decide +kernel
theorem dX11_number_134 : decode cX11_number 134 = .ok (.ifCond .ne 8, 3) := by decide +kernel
theorem dX11_number_137 : decode cX11_number 137 = .ok (.iload 5, 2) := by decide +kernel
theorem dX11_number_139 : decode cX11_number 139 = .ok (.goto 4, 3) := by decide +kernel
theorem dX11_number_142 : decode cX11_number 142 = .ok (.iconst 0, 1) := by decide +kernel
theorem dX11_number_143 : decode cX11_number 143 = .ok (.ireturn, 1) := by decide +kernel
theorem dX11_wordHere_0 : decode cX11_wordHere 0 = .ok (.aload_n 0, 1) := by decide +kernel
theorem dX11_wordHere_1 : decode cX11_wordHere 1 = .ok (.invokevirtual 126, 3) := by decide +kernel
theorem dX11_wordHere_4 : decode cX11_wordHere 4 = .ok (.iconst 0, 1) := by decide +kernel
theorem dX11_wordHere_5 : decode cX11_wordHere 5 = .ok (.istore_n 1, 1) := by decide +kernel
theorem dX11_wordHere_6 : decode cX11_wordHere 6 = .ok (.iconst 0, 1) := by decide +kernel
theorem dX11_wordHere_7 : decode cX11_wordHere 7 = .ok (.istore_n 2, 1) := by decide +kernel
theorem dX11_wordHere_8 : decode cX11_wordHere 8 = .ok (.aload_n 0, 1) := by decide +kernel
theorem dX11_wordHere_9 : decode cX11_wordHere 9 = .ok (.aload_n 0, 1) := by decide +kernel
theorem dX11_wordHere_10 : decode cX11_wordHere 10 = .ok (.getfield 113, 3) := by decide +kernel
theorem dX11_wordHere_13 : decode cX11_wordHere 13 = .ok (.iload_n 2, 1) := by decide +kernel
theorem dX11_wordHere_14 : decode cX11_wordHere 14 = .ok (.iadd, 1) := by decide +kernel
theorem dX11_wordHere_15 : decode cX11_wordHere 15 = .ok (.invokevirtual 116, 3) := by decide +kernel
theorem dX11_wordHere_18 : decode cX11_wordHere 18 = .ok (.bipush 97, 2) := by decide +kernel
theorem dX11_wordHere_20 : decode cX11_wordHere 20 = .ok (.if_icmp .lt 55, 3) := by decide +kernel
theorem dX11_wordHere_23 : decode cX11_wordHere 23 = .ok (.aload_n 0, 1) := by decide +kernel
theorem dX11_wordHere_24 : decode cX11_wordHere 24 = .ok (.aload_n 0, 1) := by decide +kernel
theorem dX11_wordHere_25 : decode cX11_wordHere 25 = .ok (.getfield 113, 3) := by decide +kernel
theorem dX11_wordHere_28 : decode cX11_wordHere 28 = .ok (.iload_n 2, 1) := by decide +kernel
theorem dX11_wordHere_29 : decode cX11_wordHere 29 = .ok (.iadd, 1) := by decide +kernel
theorem dX11_wordHere_30 : decode cX11_wordHere 30 = .ok (.invokevirtual 116, 3) := by decide +kernel
theorem dX11_wordHere_33 : decode cX11_wordHere 33 = .ok (.bipush 122, 2) := by decide +kernel
theorem dX11_wordHere_35 : decode cX11_wordHere 35 = .ok (.if_icmp .gt 40, 3) := by decide +kernel
theorem dX11_wordHere_38 : decode cX11_wordHere 38 = .ok (.iload_n 2, 1) := by decide +kernel
theorem dX11_wordHere_39 : decode cX11_wordHere 39 = .ok (.bipush 6, 2) := by decide +kernel
theorem dX11_wordHere_41 : decode cX11_wordHere 41 = .ok (.if_icmp .ge 26, 3) := by decide +kernel
theorem dX11_wordHere_44 : decode cX11_wordHere 44 = .ok (.bipush 27, 2) := by decide +kernel
theorem dX11_wordHere_46 : decode cX11_wordHere 46 = .ok (.iload_n 1, 1) := by decide +kernel
theorem dX11_wordHere_47 : decode cX11_wordHere 47 = .ok (.imul, 1) := by decide +kernel
theorem dX11_wordHere_48 : decode cX11_wordHere 48 = .ok (.aload_n 0, 1) := by decide +kernel
theorem dX11_wordHere_49 : decode cX11_wordHere 49 = .ok (.aload_n 0, 1) := by decide +kernel
theorem dX11_wordHere_50 : decode cX11_wordHere 50 = .ok (.getfield 113, 3) := by decide +kernel
theorem dX11_wordHere_53 : decode cX11_wordHere 53 = .ok (.iload_n 2, 1) := by decide +kernel
theorem dX11_wordHere_54 : decode cX11_wordHere 54 = .ok (.iadd, 1) := by decide +kernel
theorem dX11_wordHere_55 : decode cX11_wordHere 55 = .ok (.invokevirtual 116, 3) := by decide +kernel
theorem dX11_wordHere_58 : decode cX11_wordHere 58 = .ok (.iadd, 1) := by decide +kernel
theorem dX11_wordHere_59 : decode cX11_wordHere 59 = .ok (.bipush 97, 2) := by decide +kernel
theorem dX11_wordHere_61 : decode cX11_wordHere 61 = .ok (.isub, 1) := by decide +kernel
theorem dX11_wordHere_62 : decode cX11_wordHere 62 = .ok (.iconst 1, 1) := by decide +kernel
theorem dX11_wordHere_63 : decode cX11_wordHere 63 = .ok (.iadd, 1) := by decide +kernel
theorem dX11_wordHere_64 : decode cX11_wordHere 64 = .ok (.goto 4, 3) := by decide +kernel
theorem dX11_wordHere_67 : decode cX11_wordHere 67 = .ok (.iload_n 1, 1) := by decide +kernel
theorem dX11_wordHere_68 : decode cX11_wordHere 68 = .ok (.istore_n 1, 1) := by decide +kernel
theorem dX11_wordHere_69 : decode cX11_wordHere 69 = .ok (.iinc 2 1, 3) := by decide +kernel
theorem dX11_wordHere_72 : decode cX11_wordHere 72 = .ok (.goto (-64), 3) := by decide +kernel
theorem dX11_wordHere_75 : decode cX11_wordHere 75 = .ok (.iload_n 2, 1) := by decide +kernel
theorem dX11_wordHere_76 : decode cX11_wordHere 76 = .ok (.bipush 6, 2) := by decide +kernel
theorem dX11_wordHere_78 : decode cX11_wordHere 78 = .ok (.if_icmp .le 7, 3) := by decide +kernel
theorem dX11_wordHere_81 : decode cX11_wordHere 81 = .ok (.iconst (-1), 1) := by decide +kernel
theorem dX11_wordHere_82 : decode cX11_wordHere 82 = .ok (.goto 4, 3) := by decide +kernel
theorem dX11_wordHere_85 : decode cX11_wordHere 85 = .ok (.iload_n 1, 1) := by decide +kernel
theorem dX11_wordHere_86 : decode cX11_wordHere 86 = .ok (.ireturn, 1) := by decide +kernel
theorem dX11_six_0 : decode cX11_six 0 = .ok (.bipush 27, 2) := by decide +kernel
theorem dX11_six_2 : decode cX11_six 2 = .ok (.bipush 27, 2) := by decide +kernel
theorem dX11_six_4 : decode cX11_six 4 = .ok (.iload_n 0, 1) := by decide +kernel
theorem dX11_six_5 : decode cX11_six 5 = .ok (.imul, 1) := by decide +kernel
theorem dX11_six_6 : decode cX11_six 6 = .ok (.iload_n 1, 1) := by decide +kernel
theorem dX11_six_7 : decode cX11_six 7 = .ok (.iadd, 1) := by decide +kernel
theorem dX11_six_8 : decode cX11_six 8 = .ok (.imul, 1) := by decide +kernel
theorem dX11_six_9 : decode cX11_six 9 = .ok (.iload_n 2, 1) := by decide +kernel
theorem dX11_six_10 : decode cX11_six 10 = .ok (.iadd, 1) := by decide +kernel
theorem dX11_six_11 : decode cX11_six 11 = .ok (.istore 6, 2) := by decide +kernel
theorem dX11_six_13 : decode cX11_six 13 = .ok (.iload_n 3, 1) := by decide +kernel
theorem dX11_six_14 : decode cX11_six 14 = .ok (.ifCond .ne 8, 3) := by decide +kernel
theorem dX11_six_17 : decode cX11_six 17 = .ok (.iload 6, 2) := by decide +kernel
theorem dX11_six_19 : decode cX11_six 19 = .ok (.goto 10, 3) := by decide +kernel
theorem dX11_six_22 : decode cX11_six 22 = .ok (.bipush 27, 2) := by decide +kernel
theorem dX11_six_24 : decode cX11_six 24 = .ok (.iload 6, 2) := by decide +kernel
theorem dX11_six_26 : decode cX11_six 26 = .ok (.imul, 1) := by decide +kernel
theorem dX11_six_27 : decode cX11_six 27 = .ok (.iload_n 3, 1) := by decide +kernel
theorem dX11_six_28 : decode cX11_six 28 = .ok (.iadd, 1) := by decide +kernel
theorem dX11_six_29 : decode cX11_six 29 = .ok (.istore 6, 2) := by decide +kernel
theorem dX11_six_31 : decode cX11_six 31 = .ok (.iload 4, 2) := by decide +kernel
theorem dX11_six_33 : decode cX11_six 33 = .ok (.ifCond .ne 8, 3) := by decide +kernel
theorem dX11_six_36 : decode cX11_six 36 = .ok (.iload 6, 2) := by decide +kernel
theorem dX11_six_38 : decode cX11_six 38 = .ok (.goto 11, 3) := by decide +kernel
theorem dX11_six_41 : decode cX11_six 41 = .ok (.bipush 27, 2) := by decide +kernel
theorem dX11_six_43 : decode cX11_six 43 = .ok (.iload 6, 2) := by decide +kernel
theorem dX11_six_45 : decode cX11_six 45 = .ok (.imul, 1) := by decide +kernel
theorem dX11_six_46 : decode cX11_six 46 = .ok (.iload 4, 2) := by decide +kernel
theorem dX11_six_48 : decode cX11_six 48 = .ok (.iadd, 1) := by decide +kernel
theorem dX11_six_49 : decode cX11_six 49 = .ok (.istore 6, 2) := by decide +kernel
theorem dX11_six_51 : decode cX11_six 51 = .ok (.iload 5, 2) := by decide +kernel
theorem dX11_six_53 : decode cX11_six 53 = .ok (.ifCond .ne 8, 3) := by decide +kernel
theorem dX11_six_56 : decode cX11_six 56 = .ok (.iload 6, 2) := by decide +kernel
theorem dX11_six_58 : decode cX11_six 58 = .ok (.goto 11, 3) := by decide +kernel
theorem dX11_six_61 : decode cX11_six 61 = .ok (.bipush 27, 2) := by decide +kernel
theorem dX11_six_63 : decode cX11_six 63 = .ok (.iload 6, 2) := by decide +kernel
theorem dX11_six_65 : decode cX11_six 65 = .ok (.imul, 1) := by decide +kernel
theorem dX11_six_66 : decode cX11_six 66 = .ok (.iload 5, 2) := by decide +kernel
theorem dX11_six_68 : decode cX11_six 68 = .ok (.iadd, 1) := by decide +kernel
theorem dX11_six_69 : decode cX11_six 69 = .ok (.ireturn, 1) := by decide +kernel
theorem dX11_isWord_0 : decode cX11_isWord 0 = .ok (.aload_n 0, 1) := by decide +kernel
theorem dX11_isWord_1 : decode cX11_isWord 1 = .ok (.getfield 120, 3) := by decide +kernel
theorem dX11_isWord_4 : decode cX11_isWord 4 = .ok (.ifCond .ne 26, 3) := by decide +kernel
theorem dX11_isWord_7 : decode cX11_isWord 7 = .ok (.aload_n 0, 1) := by decide +kernel
theorem dX11_isWord_8 : decode cX11_isWord 8 = .ok (.invokevirtual 142, 3) := by decide +kernel
theorem dX11_isWord_11 : decode cX11_isWord 11 = .ok (.iload_n 1, 1) := by decide +kernel
theorem dX11_isWord_12 : decode cX11_isWord 12 = .ok (.iload_n 2, 1) := by decide +kernel
theorem dX11_isWord_13 : decode cX11_isWord 13 = .ok (.iload_n 3, 1) := by decide +kernel
theorem dX11_isWord_14 : decode cX11_isWord 14 = .ok (.iload 4, 2) := by decide +kernel
theorem dX11_isWord_16 : decode cX11_isWord 16 = .ok (.iload 5, 2) := by decide +kernel
theorem dX11_isWord_18 : decode cX11_isWord 18 = .ok (.iload 6, 2) := by decide +kernel
theorem dX11_isWord_20 : decode cX11_isWord 20 = .ok (.invokestatic 146, 3) := by decide +kernel
theorem dX11_isWord_23 : decode cX11_isWord 23 = .ok (.if_icmp .ne 7, 3) := by decide +kernel
theorem dX11_isWord_26 : decode cX11_isWord 26 = .ok (.iconst 1, 1) := by decide +kernel
theorem dX11_isWord_27 : decode cX11_isWord 27 = .ok (.goto 4, 3) := by decide +kernel
theorem dX11_isWord_30 : decode cX11_isWord 30 = .ok (.iconst 0, 1) := by decide +kernel
theorem dX11_isWord_31 : decode cX11_isWord 31 = .ok (.ireturn, 1) := by decide +kernel
theorem dX11_sign_0 : decode cX11_sign 0 = .ok (.aload_n 0, 1) := by decide +kernel
theorem dX11_sign_1 : decode cX11_sign 1 = .ok (.getfield 120, 3) := by decide +kernel
theorem dX11_sign_4 : decode cX11_sign 4 = .ok (.ifCond .eq 4, 3) := by decide +kernel
theorem dX11_sign_7 : decode cX11_sign 7 = .ok (.return_, 1) := by decide +kernel
theorem dX11_sign_8 : decode cX11_sign 8 = .ok (.aload_n 0, 1) := by decide +kernel
theorem dX11_sign_9 : decode cX11_sign 9 = .ok (.invokevirtual 126, 3) := by decide +kernel
theorem dX11_sign_12 : decode cX11_sign 12 = .ok (.aload_n 0, 1) := by decide +kernel
theorem dX11_sign_13 : decode cX11_sign 13 = .ok (.aload_n 0, 1) := by decide +kernel
theorem dX11_sign_14 : decode cX11_sign 14 = .ok (.getfield 113, 3) := by decide +kernel
theorem dX11_sign_17 : decode cX11_sign 17 = .ok (.invokevirtual 116, 3) := by decide +kernel
theorem dX11_sign_20 : decode cX11_sign 20 = .ok (.iload_n 1, 1) := by decide +kernel
theorem dX11_sign_21 : decode cX11_sign 21 = .ok (.if_icmp .ne 16, 3) := by decide +kernel
theorem dX11_sign_24 : decode cX11_sign 24 = .ok (.aload_n 0, 1) := by decide +kernel
theorem dX11_sign_25 : decode cX11_sign 25 = .ok (.dup, 1) := by decide +kernel
theorem dX11_sign_26 : decode cX11_sign 26 = .ok (.getfield 113, 3) := by decide +kernel
theorem dX11_sign_29 : decode cX11_sign 29 = .ok (.iconst 1, 1) := by decide +kernel
theorem dX11_sign_30 : decode cX11_sign 30 = .ok (.iadd, 1) := by decide +kernel
theorem dX11_sign_31 : decode cX11_sign 31 = .ok (.putfield 113, 3) := by decide +kernel
theorem dX11_sign_34 : decode cX11_sign 34 = .ok (.goto 12, 3) := by decide +kernel
theorem dX11_sign_37 : decode cX11_sign 37 = .ok (.aload_n 0, 1) := by decide +kernel
theorem dX11_sign_38 : decode cX11_sign 38 = .ok (.iconst 1, 1) := by decide +kernel
theorem dX11_sign_39 : decode cX11_sign 39 = .ok (.aload_n 0, 1) := by decide +kernel
theorem dX11_sign_40 : decode cX11_sign 40 = .ok (.getfield 113, 3) := by decide +kernel
theorem dX11_sign_43 : decode cX11_sign 43 = .ok (.invokevirtual 133, 3) := by decide +kernel
theorem dX11_sign_46 : decode cX11_sign 46 = .ok (.return_, 1) := by decide +kernel
theorem dX11_kindHere_0 : decode cX11_kindHere 0 = .ok (.aload_n 0, 1) := by decide +kernel
theorem dX11_kindHere_1 : decode cX11_kindHere 1 = .ok (.bipush 16, 2) := by decide +kernel
theorem dX11_kindHere_3 : decode cX11_kindHere 3 = .ok (.bipush 12, 2) := by decide +kernel
theorem dX11_kindHere_5 : decode cX11_kindHere 5 = .ok (.iconst 1, 1) := by decide +kernel
theorem dX11_kindHere_6 : decode cX11_kindHere 6 = .ok (.iconst 3, 1) := by decide +kernel
theorem dX11_kindHere_7 : decode cX11_kindHere 7 = .ok (.iconst 5, 1) := by decide +kernel
theorem dX11_kindHere_8 : decode cX11_kindHere 8 = .ok (.bipush 19, 2) := by decide +kernel
theorem dX11_kindHere_10 : decode cX11_kindHere 10 = .ok (.invokevirtual 150, 3) := by decide +kernel
theorem dX11_kindHere_13 : decode cX11_kindHere 13 = .ok (.ifCond .eq 5, 3) := by decide +kernel
theorem dX11_kindHere_16 : decode cX11_kindHere 16 = .ok (.iconst 0, 1) := by decide +kernel
theorem dX11_kindHere_17 : decode cX11_kindHere 17 = .ok (.ireturn, 1) := by decide +kernel
theorem dX11_kindHere_18 : decode cX11_kindHere 18 = .ok (.aload_n 0, 1) := by decide +kernel
theorem dX11_kindHere_19 : decode cX11_kindHere 19 = .ok (.bipush 18, 2) := by decide +kernel
theorem dX11_kindHere_21 : decode cX11_kindHere 21 = .ok (.bipush 15, 2) := by decide +kernel
theorem dX11_kindHere_23 : decode cX11_kindHere 23 = .ok (.iconst 1, 1) := by decide +kernel
theorem dX11_kindHere_24 : decode cX11_kindHere 24 = .ok (.iconst 4, 1) := by decide +kernel
theorem dX11_kindHere_25 : decode cX11_kindHere 25 = .ok (.iconst 0, 1) := by decide +kernel
theorem dX11_kindHere_26 : decode cX11_kindHere 26 = .ok (.iconst 0, 1) := by decide +kernel
theorem dX11_kindHere_27 : decode cX11_kindHere 27 = .ok (.invokevirtual 150, 3) := by decide +kernel
theorem dX11_kindHere_30 : decode cX11_kindHere 30 = .ok (.ifCond .eq 5, 3) := by decide +kernel
theorem dX11_kindHere_33 : decode cX11_kindHere 33 = .ok (.iconst 1, 1) := by decide +kernel
theorem dX11_kindHere_34 : decode cX11_kindHere 34 = .ok (.ireturn, 1) := by decide +kernel
theorem dX11_kindHere_35 : decode cX11_kindHere 35 = .ok (.aload_n 0, 1) := by decide +kernel
theorem dX11_kindHere_36 : decode cX11_kindHere 36 = .ok (.bipush 14, 2) := by decide +kernel
theorem dX11_kindHere_38 : decode cX11_kindHere 38 = .ok (.iconst 5, 1) := by decide +kernel
theorem dX11_kindHere_39 : decode cX11_kindHere 39 = .ok (.bipush 23, 2) := by decide +kernel
theorem dX11_kindHere_41 : decode cX11_kindHere 41 = .ok (.iconst 0, 1) := by decide +kernel
theorem dX11_kindHere_42 : decode cX11_kindHere 42 = .ok (.iconst 0, 1) := by decide +kernel
theorem dX11_kindHere_43 : decode cX11_kindHere 43 = .ok (.iconst 0, 1) := by decide +kernel
theorem dX11_kindHere_44 : decode cX11_kindHere 44 = .ok (.invokevirtual 150, 3) := by decide +kernel
theorem dX11_kindHere_47 : decode cX11_kindHere 47 = .ok (.ifCond .eq 5, 3) := by decide +kernel
theorem dX11_kindHere_50 : decode cX11_kindHere 50 = .ok (.iconst 2, 1) := by decide +kernel
theorem dX11_kindHere_51 : decode cX11_kindHere 51 = .ok (.ireturn, 1) := by decide +kernel
theorem dX11_kindHere_52 : decode cX11_kindHere 52 = .ok (.aload_n 0, 1) := by decide +kernel
theorem dX11_kindHere_53 : decode cX11_kindHere 53 = .ok (.bipush 7, 2) := by decide +kernel
theorem dX11_kindHere_55 : decode cX11_kindHere 55 = .ok (.bipush 15, 2) := by decide +kernel
theorem dX11_kindHere_57 : decode cX11_kindHere 57 = .ok (.bipush 9, 2) := by decide +kernel
theorem dX11_kindHere_59 : decode cX11_kindHere 59 = .ok (.bipush 14, 2) := by decide +kernel
theorem dX11_kindHere_61 : decode cX11_kindHere 61 = .ok (.bipush 7, 2) := by decide +kernel
theorem dX11_kindHere_63 : decode cX11_kindHere 63 = .ok (.iconst 0, 1) := by decide +kernel
theorem dX11_kindHere_64 : decode cX11_kindHere 64 = .ok (.invokevirtual 150, 3) := by decide +kernel
theorem dX11_kindHere_67 : decode cX11_kindHere 67 = .ok (.ifCond .eq 5, 3) := by decide +kernel
theorem dX11_kindHere_70 : decode cX11_kindHere 70 = .ok (.iconst 3, 1) := by decide +kernel
theorem dX11_kindHere_71 : decode cX11_kindHere 71 = .ok (.ireturn, 1) := by decide +kernel
theorem dX11_kindHere_72 : decode cX11_kindHere 72 = .ok (.aload_n 0, 1) := by decide +kernel
theorem dX11_kindHere_73 : decode cX11_kindHere 73 = .ok (.bipush 23, 2) := by decide +kernel
theorem dX11_kindHere_75 : decode cX11_kindHere 75 = .ok (.iconst 5, 1) := by decide +kernel
theorem dX11_kindHere_76 : decode cX11_kindHere 76 = .ok (.bipush 20, 2) := by decide +kernel
theorem dX11_kindHere_78 : decode cX11_kindHere 78 = .ok (.iconst 0, 1) := by decide +kernel
theorem dX11_kindHere_79 : decode cX11_kindHere 79 = .ok (.iconst 0, 1) := by decide +kernel
theorem dX11_kindHere_80 : decode cX11_kindHere 80 = .ok (.iconst 0, 1) := by decide +kernel
theorem dX11_kindHere_81 : decode cX11_kindHere 81 = .ok (.invokevirtual 150, 3) := by decide +kernel
theorem dX11_kindHere_84 : decode cX11_kindHere 84 = .ok (.ifCond .eq 5, 3) := by decide +kernel
theorem dX11_kindHere_87 : decode cX11_kindHere 87 = .ok (.iconst 4, 1) := by decide +kernel
theorem dX11_kindHere_88 : decode cX11_kindHere 88 = .ok (.ireturn, 1) := by decide +kernel
theorem dX11_kindHere_89 : decode cX11_kindHere 89 = .ok (.aload_n 0, 1) := by decide +kernel
theorem dX11_kindHere_90 : decode cX11_kindHere 90 = .ok (.bipush 12, 2) := by decide +kernel
theorem dX11_kindHere_92 : decode cX11_kindHere 92 = .ok (.iconst 1, 1) := by decide +kernel
theorem dX11_kindHere_93 : decode cX11_kindHere 93 = .ok (.bipush 23, 2) := by decide +kernel
theorem dX11_kindHere_95 : decode cX11_kindHere 95 = .ok (.iconst 0, 1) := by decide +kernel
theorem dX11_kindHere_96 : decode cX11_kindHere 96 = .ok (.iconst 0, 1) := by decide +kernel
theorem dX11_kindHere_97 : decode cX11_kindHere 97 = .ok (.iconst 0, 1) := by decide +kernel
theorem dX11_kindHere_98 : decode cX11_kindHere 98 = .ok (.invokevirtual 150, 3) := by decide +kernel
theorem dX11_kindHere_101 : decode cX11_kindHere 101 = .ok (.ifCond .eq 5, 3) := by decide +kernel
theorem dX11_kindHere_104 : decode cX11_kindHere 104 = .ok (.iconst 5, 1) := by decide +kernel
theorem dX11_kindHere_105 : decode cX11_kindHere 105 = .ok (.ireturn, 1) := by decide +kernel
theorem dX11_kindHere_106 : decode cX11_kindHere 106 = .ok (.aload_n 0, 1) := by decide +kernel
theorem dX11_kindHere_107 : decode cX11_kindHere 107 = .ok (.iconst 3, 1) := by decide +kernel
theorem dX11_kindHere_108 : decode cX11_kindHere 108 = .ok (.bipush 8, 2) := by decide +kernel
theorem dX11_kindHere_110 : decode cX11_kindHere 110 = .ok (.iconst 1, 1) := by decide +kernel
theorem dX11_kindHere_111 : decode cX11_kindHere 111 = .ok (.bipush 14, 2) := by decide +kernel
theorem dX11_kindHere_113 : decode cX11_kindHere 113 = .ok (.iconst 3, 1) := by decide +kernel
theorem dX11_kindHere_114 : decode cX11_kindHere 114 = .ok (.iconst 5, 1) := by decide +kernel
theorem dX11_kindHere_115 : decode cX11_kindHere 115 = .ok (.invokevirtual 150, 3) := by decide +kernel
theorem dX11_kindHere_118 : decode cX11_kindHere 118 = .ok (.ifCond .eq 6, 3) := by decide +kernel
theorem dX11_kindHere_121 : decode cX11_kindHere 121 = .ok (.bipush 6, 2) := by decide +kernel
theorem dX11_kindHere_123 : decode cX11_kindHere 123 = .ok (.ireturn, 1) := by decide +kernel
theorem dX11_kindHere_124 : decode cX11_kindHere 124 = .ok (.aload_n 0, 1) := by decide +kernel
theorem dX11_kindHere_125 : decode cX11_kindHere 125 = .ok (.bipush 23, 2) := by decide +kernel
theorem dX11_kindHere_127 : decode cX11_kindHere 127 = .ok (.iconst 1, 1) := by decide +kernel
theorem dX11_kindHere_128 : decode cX11_kindHere 128 = .ok (.bipush 9, 2) := by decide +kernel
theorem dX11_kindHere_130 : decode cX11_kindHere 130 = .ok (.bipush 20, 2) := by decide +kernel
theorem dX11_kindHere_132 : decode cX11_kindHere 132 = .ok (.iconst 0, 1) := by decide +kernel
theorem dX11_kindHere_133 : decode cX11_kindHere 133 = .ok (.iconst 0, 1) := by decide +kernel
theorem dX11_kindHere_134 : decode cX11_kindHere 134 = .ok (.invokevirtual 150, 3) := by decide +kernel
theorem dX11_kindHere_137 : decode cX11_kindHere 137 = .ok (.ifCond .eq 8, 3) := by decide +kernel
theorem dX11_kindHere_140 : decode cX11_kindHere 140 = .ok (.bipush 7, 2) := by decide +kernel
theorem dX11_kindHere_142 : decode cX11_kindHere 142 = .ok (.goto 4, 3) := by decide +kernel
theorem dX11_kindHere_145 : decode cX11_kindHere 145 = .ok (.iconst (-1), 1) := by decide +kernel
theorem dX11_kindHere_146 : decode cX11_kindHere 146 = .ok (.ireturn, 1) := by decide +kernel
theorem dX11_mostOf_0 : decode cX11_mostOf 0 = .ok (.iload_n 0, 1) := by decide +kernel
theorem dX11_mostOf_1 : decode cX11_mostOf 1 = .ok (.iconst 1, 1) := by decide +kernel
theorem dX11_mostOf_2 : decode cX11_mostOf 2 = .ok (.if_icmp .ne 8, 3) := by decide +kernel
theorem dX11_mostOf_5 : decode cX11_mostOf 5 = .ok (.bipush 10, 2) := by decide +kernel
theorem dX11_mostOf_7 : decode cX11_mostOf 7 = .ok (.goto 24, 3) := by decide +kernel
theorem dX11_mostOf_10 : decode cX11_mostOf 10 = .ok (.iload_n 0, 1) := by decide +kernel
theorem dX11_mostOf_11 : decode cX11_mostOf 11 = .ok (.iconst 2, 1) := by decide +kernel
theorem dX11_mostOf_12 : decode cX11_mostOf 12 = .ok (.if_icmp .ne 7, 3) := by decide +kernel
theorem dX11_mostOf_15 : decode cX11_mostOf 15 = .ok (.iconst 4, 1) := by decide +kernel
theorem dX11_mostOf_16 : decode cX11_mostOf 16 = .ok (.goto 15, 3) := by decide +kernel
theorem dX11_mostOf_19 : decode cX11_mostOf 19 = .ok (.iload_n 0, 1) := by decide +kernel
theorem dX11_mostOf_20 : decode cX11_mostOf 20 = .ok (.iconst 3, 1) := by decide +kernel
theorem dX11_mostOf_21 : decode cX11_mostOf 21 = .ok (.if_icmp .ne 8, 3) := by decide +kernel
theorem dX11_mostOf_24 : decode cX11_mostOf 24 = .ok (.bipush 14, 2) := by decide +kernel
theorem dX11_mostOf_26 : decode cX11_mostOf 26 = .ok (.goto 5, 3) := by decide +kernel
theorem dX11_mostOf_29 : decode cX11_mostOf 29 = .ok (.bipush 8, 2) := by decide +kernel
theorem dX11_mostOf_31 : decode cX11_mostOf 31 = .ok (.ireturn, 1) := by decide +kernel
theorem dX11_clause_0 : decode cX11_clause 0 = .ok (.aload_n 0, 1) := by decide +kernel
theorem dX11_clause_1 : decode cX11_clause 1 = .ok (.invokevirtual 154, 3) := by decide +kernel
theorem dX11_clause_4 : decode cX11_clause 4 = .ok (.istore_n 1, 1) := by decide +kernel
theorem dX11_clause_5 : decode cX11_clause 5 = .ok (.iload_n 1, 1) := by decide +kernel
theorem dX11_clause_6 : decode cX11_clause 6 = .ok (.iconst (-1), 1) := by decide +kernel
theorem dX11_clause_7 : decode cX11_clause 7 = .ok (.if_icmp .ne 15, 3) := by decide +kernel
theorem dX11_clause_10 : decode cX11_clause 10 = .ok (.aload_n 0, 1) := by decide +kernel
theorem dX11_clause_11 : decode cX11_clause 11 = .ok (.iconst 1, 1) := by decide +kernel
theorem dX11_clause_12 : decode cX11_clause 12 = .ok (.aload_n 0, 1) := by decide +kernel
theorem dX11_clause_13 : decode cX11_clause 13 = .ok (.getfield 113, 3) := by decide +kernel
theorem dX11_clause_16 : decode cX11_clause 16 = .ok (.invokevirtual 133, 3) := by decide +kernel
theorem dX11_clause_19 : decode cX11_clause 19 = .ok (.goto 66, 3) := by decide +kernel
theorem dX11_clause_22 : decode cX11_clause 22 = .ok (.aload_n 0, 1) := by decide +kernel
theorem dX11_clause_23 : decode cX11_clause 23 = .ok (.getfield 157, 3) := by decide +kernel
theorem dX11_clause_26 : decode cX11_clause 26 = .ok (.bipush 60, 2) := by decide +kernel
theorem dX11_clause_28 : decode cX11_clause 28 = .ok (.if_icmp .eq 25, 3) := by decide +kernel
theorem dX11_clause_31 : decode cX11_clause 31 = .ok (.iload_n 1, 1) := by decide +kernel
theorem dX11_clause_32 : decode cX11_clause 32 = .ok (.iconst 1, 1) := by decide +kernel
theorem dX11_clause_33 : decode cX11_clause 33 = .ok (.iconst 4, 1) := by decide +kernel
theorem dX11_clause_34 : decode cX11_clause 34 = .ok (.invokestatic 138, 3) := by decide +kernel
theorem dX11_clause_37 : decode cX11_clause 37 = .ok (.ifCond .eq 28, 3) := by decide +kernel
theorem dX11_clause_40 : decode cX11_clause 40 = .ok (.aload_n 0, 1) := by decide +kernel
theorem dX11_clause_41 : decode cX11_clause 41 = .ok (.getfield 17, 3) := by decide +kernel
theorem dX11_clause_44 : decode cX11_clause 44 = .ok (.iload_n 1, 1) := by decide +kernel
theorem dX11_clause_45 : decode cX11_clause 45 = .ok (.iaload, 1) := by decide +kernel
theorem dX11_clause_46 : decode cX11_clause 46 = .ok (.iload_n 1, 1) := by decide +kernel
theorem dX11_clause_47 : decode cX11_clause 47 = .ok (.invokestatic 160, 3) := by decide +kernel
theorem dX11_clause_50 : decode cX11_clause 50 = .ok (.if_icmp .ne 15, 3) := by decide +kernel
theorem dX11_clause_53 : decode cX11_clause 53 = .ok (.aload_n 0, 1) := by decide +kernel
theorem dX11_clause_54 : decode cX11_clause 54 = .ok (.iconst 3, 1) := by decide +kernel
theorem dX11_clause_55 : decode cX11_clause 55 = .ok (.aload_n 0, 1) := by decide +kernel
theorem dX11_clause_56 : decode cX11_clause 56 = .ok (.getfield 113, 3) := by decide +kernel
theorem dX11_clause_59 : decode cX11_clause 59 = .ok (.invokevirtual 133, 3) := by decide +kernel
theorem dX11_clause_62 : decode cX11_clause 62 = .ok (.goto 23, 3) := by decide +kernel
theorem dX11_clause_65 : decode cX11_clause 65 = .ok (.iload_n 1, 1) := by decide +kernel
theorem dX11_clause_66 : decode cX11_clause 66 = .ok (.ifCond .ne 19, 3) := by decide +kernel
theorem dX11_clause_69 : decode cX11_clause 69 = .ok (.aload_n 0, 1) := by decide +kernel
theorem dX11_clause_70 : decode cX11_clause 70 = .ok (.getfield 157, 3) := by decide +kernel
theorem dX11_clause_73 : decode cX11_clause 73 = .ok (.ifCond .le 12, 3) := by decide +kernel
theorem dX11_clause_76 : decode cX11_clause 76 = .ok (.aload_n 0, 1) := by decide +kernel
theorem dX11_clause_77 : decode cX11_clause 77 = .ok (.iconst 4, 1) := by decide +kernel
theorem dX11_clause_78 : decode cX11_clause 78 = .ok (.aload_n 0, 1) := by decide +kernel
theorem dX11_clause_79 : decode cX11_clause 79 = .ok (.getfield 113, 3) := by decide +kernel
theorem dX11_clause_82 : decode cX11_clause 82 = .ok (.invokevirtual 133, 3) := by decide +kernel
theorem dX11_clause_85 : decode cX11_clause 85 = .ok (.aload_n 0, 1) := by decide +kernel
theorem dX11_clause_86 : decode cX11_clause 86 = .ok (.getfield 120, 3) := by decide +kernel
theorem dX11_clause_89 : decode cX11_clause 89 = .ok (.ifCond .eq 4, 3) := by decide +kernel
theorem dX11_clause_92 : decode cX11_clause 92 = .ok (.return_, 1) := by decide +kernel
theorem dX11_clause_93 : decode cX11_clause 93 = .ok (.aload_n 0, 1) := by decide +kernel
theorem dX11_clause_94 : decode cX11_clause 94 = .ok (.aload_n 0, 1) := by decide +kernel
theorem dX11_clause_95 : decode cX11_clause 95 = .ok (.getfield 113, 3) := by decide +kernel
theorem dX11_clause_98 : decode cX11_clause 98 = .ok (.invokevirtual 116, 3) := by decide +kernel
theorem dX11_clause_101 : decode cX11_clause 101 = .ok (.bipush 97, 2) := by decide +kernel
theorem dX11_clause_103 : decode cX11_clause 103 = .ok (.if_icmp .lt 29, 3) := by decide +kernel
theorem dX11_clause_106 : decode cX11_clause 106 = .ok (.aload_n 0, 1) := by decide +kernel
theorem dX11_clause_107 : decode cX11_clause 107 = .ok (.aload_n 0, 1) := by decide +kernel
theorem dX11_clause_108 : decode cX11_clause 108 = .ok (.getfield 113, 3) := by decide +kernel
theorem dX11_clause_111 : decode cX11_clause 111 = .ok (.invokevirtual 116, 3) := by decide +kernel
theorem dX11_clause_114 : decode cX11_clause 114 = .ok (.bipush 122, 2) := by decide +kernel
theorem dX11_clause_116 : decode cX11_clause 116 = .ok (.if_icmp .gt 16, 3) := by decide +kernel
theorem dX11_clause_119 : decode cX11_clause 119 = .ok (.aload_n 0, 1) := by decide +kernel
theorem dX11_clause_120 : decode cX11_clause 120 = .ok (.dup, 1) := by decide +kernel
theorem dX11_clause_121 : decode cX11_clause 121 = .ok (.getfield 113, 3) := by decide +kernel
theorem dX11_clause_124 : decode cX11_clause 124 = .ok (.iconst 1, 1) := by decide +kernel
theorem dX11_clause_125 : decode cX11_clause 125 = .ok (.iadd, 1) := by decide +kernel
theorem dX11_clause_126 : decode cX11_clause 126 = .ok (.putfield 113, 3) := by decide +kernel
theorem dX11_clause_129 : decode cX11_clause 129 = .ok (.goto (-36), 3) := by decide +kernel
theorem dX11_clause_132 : decode cX11_clause 132 = .ok (.aload_n 0, 1) := by decide +kernel
theorem dX11_clause_133 : decode cX11_clause 133 = .ok (.dup, 1) := by decide +kernel
theorem dX11_clause_134 : decode cX11_clause 134 = .ok (.getfield 157, 3) := by decide +kernel
theorem dX11_clause_137 : decode cX11_clause 137 = .ok (.iconst 1, 1) := by decide +kernel
theorem dX11_clause_138 : decode cX11_clause 138 = .ok (.iadd, 1) := by decide +kernel
theorem dX11_clause_139 : decode cX11_clause 139 = .ok (.putfield 157, 3) := by decide +kernel
theorem dX11_clause_142 : decode cX11_clause 142 = .ok (.iload_n 1, 1) := by decide +kernel
theorem dX11_clause_143 : decode cX11_clause 143 = .ok (.ifCond .ne 20, 3) := by decide +kernel
theorem dX11_clause_146 : decode cX11_clause 146 = .ok (.aload_n 0, 1) := by decide +kernel
theorem dX11_clause_147 : decode cX11_clause 147 = .ok (.getfield 17, 3) := by decide +kernel
theorem dX11_clause_150 : decode cX11_clause 150 = .ok (.iconst 0, 1) := by decide +kernel
theorem dX11_clause_151 : decode cX11_clause 151 = .ok (.aload_n 0, 1) := by decide +kernel
theorem dX11_clause_152 : decode cX11_clause 152 = .ok (.iconst 2, 1) := by decide +kernel
theorem dX11_clause_153 : decode cX11_clause 153 = .ok (.bipush 12, 2) := by decide +kernel
theorem dX11_clause_155 : decode cX11_clause 155 = .ok (.iconst (-1), 1) := by decide +kernel
theorem dX11_clause_156 : decode cX11_clause 156 = .ok (.invokevirtual 163, 3) := by decide +kernel
theorem dX11_clause_159 : decode cX11_clause 159 = .ok (.iastore, 1) := by decide +kernel
theorem dX11_clause_160 : decode cX11_clause 160 = .ok (.goto 178, 3) := by decide +kernel
theorem dX11_clause_163 : decode cX11_clause 163 = .ok (.iload_n 1, 1) := by decide +kernel
theorem dX11_clause_164 : decode cX11_clause 164 = .ok (.iconst 3, 1) := by decide +kernel
theorem dX11_clause_165 : decode cX11_clause 165 = .ok (.if_icmp .ge 43, 3) := by decide +kernel
theorem dX11_clause_168 : decode cX11_clause 168 = .ok (.aload_n 0, 1) := by decide +kernel
theorem dX11_clause_169 : decode cX11_clause 169 = .ok (.iload_n 1, 1) := by decide +kernel
theorem dX11_clause_170 : decode cX11_clause 170 = .ok (.iconst 1, 1) := by decide +kernel
theorem dX11_clause_171 : decode cX11_clause 171 = .ok (.if_icmp .ne 10, 3) := by decide +kernel
theorem dX11_clause_174 : decode cX11_clause 174 = .ok (.aload_n 0, 1) := by decide +kernel
theorem dX11_clause_175 : decode cX11_clause 175 = .ok (.getfield 31, 3) := by decide +kernel
theorem dX11_clause_178 : decode cX11_clause 178 = .ok (.goto 7, 3) := by decide +kernel
theorem dX11_clause_181 : decode cX11_clause 181 = .ok (.aload_n 0, 1) := by decide +kernel
theorem dX11_clause_182 : decode cX11_clause 182 = .ok (.getfield 37, 3) := by decide +kernel
theorem dX11_clause_185 : decode cX11_clause 185 = .ok (.aload_n 0, 1) := by decide +kernel
theorem dX11_clause_186 : decode cX11_clause 186 = .ok (.getfield 17, 3) := by decide +kernel
theorem dX11_clause_189 : decode cX11_clause 189 = .ok (.iload_n 1, 1) := by decide +kernel
theorem dX11_clause_190 : decode cX11_clause 190 = .ok (.iaload, 1) := by decide +kernel
theorem dX11_clause_191 : decode cX11_clause 191 = .ok (.aaload, 1) := by decide +kernel
theorem dX11_clause_192 : decode cX11_clause 192 = .ok (.invokevirtual 167, 3) := by decide +kernel
theorem dX11_clause_195 : decode cX11_clause 195 = .ok (.aload_n 0, 1) := by decide +kernel
theorem dX11_clause_196 : decode cX11_clause 196 = .ok (.getfield 17, 3) := by decide +kernel
theorem dX11_clause_199 : decode cX11_clause 199 = .ok (.iload_n 1, 1) := by decide +kernel
theorem dX11_clause_200 : decode cX11_clause 200 = .ok (.dup2, 1) := by decide +kernel
theorem dX11_clause_201 : decode cX11_clause 201 = .ok (.iaload, 1) := by decide +kernel
theorem dX11_clause_202 : decode cX11_clause 202 = .ok (.iconst 1, 1) := by decide +kernel
theorem dX11_clause_203 : decode cX11_clause 203 = .ok (.iadd, 1) := by decide +kernel
theorem dX11_clause_204 : decode cX11_clause 204 = .ok (.iastore, 1) := by decide +kernel
theorem dX11_clause_205 : decode cX11_clause 205 = .ok (.goto 133, 3) := by decide +kernel
theorem dX11_clause_208 : decode cX11_clause 208 = .ok (.iload_n 1, 1) := by decide +kernel
theorem dX11_clause_209 : decode cX11_clause 209 = .ok (.iconst 3, 1) := by decide +kernel
theorem dX11_clause_210 : decode cX11_clause 210 = .ok (.if_icmp .ne 31, 3) := by decide +kernel
theorem dX11_clause_213 : decode cX11_clause 213 = .ok (.aload_n 0, 1) := by decide +kernel
theorem dX11_clause_214 : decode cX11_clause 214 = .ok (.aload_n 0, 1) := by decide +kernel
theorem dX11_clause_215 : decode cX11_clause 215 = .ok (.getfield 43, 3) := by decide +kernel
theorem dX11_clause_218 : decode cX11_clause 218 = .ok (.aload_n 0, 1) := by decide +kernel
theorem dX11_clause_219 : decode cX11_clause 219 = .ok (.getfield 17, 3) := by decide +kernel
theorem dX11_clause_222 : decode cX11_clause 222 = .ok (.iconst 3, 1) := by decide +kernel
theorem dX11_clause_223 : decode cX11_clause 223 = .ok (.iaload, 1) := by decide +kernel
theorem dX11_clause_224 : decode cX11_clause 224 = .ok (.aaload, 1) := by decide +kernel
theorem dX11_clause_225 : decode cX11_clause 225 = .ok (.invokevirtual 171, 3) := by decide +kernel
theorem dX11_clause_228 : decode cX11_clause 228 = .ok (.aload_n 0, 1) := by decide +kernel
theorem dX11_clause_229 : decode cX11_clause 229 = .ok (.getfield 17, 3) := by decide +kernel
theorem dX11_clause_232 : decode cX11_clause 232 = .ok (.iconst 3, 1) := by decide +kernel
theorem dX11_clause_233 : decode cX11_clause 233 = .ok (.dup2, 1) := by decide +kernel
theorem dX11_clause_234 : decode cX11_clause 234 = .ok (.iaload, 1) := by decide +kernel
theorem dX11_clause_235 : decode cX11_clause 235 = .ok (.iconst 1, 1) := by decide +kernel
theorem dX11_clause_236 : decode cX11_clause 236 = .ok (.iadd, 1) := by decide +kernel
theorem dX11_clause_237 : decode cX11_clause 237 = .ok (.iastore, 1) := by decide +kernel
theorem dX11_clause_238 : decode cX11_clause 238 = .ok (.goto 100, 3) := by decide +kernel
theorem dX11_clause_241 : decode cX11_clause 241 = .ok (.iload_n 1, 1) := by decide +kernel
theorem dX11_clause_242 : decode cX11_clause 242 = .ok (.iconst 4, 1) := by decide +kernel
theorem dX11_clause_243 : decode cX11_clause 243 = .ok (.if_icmp .ne 10, 3) := by decide +kernel
theorem dX11_clause_246 : decode cX11_clause 246 = .ok (.aload_n 0, 1) := by decide +kernel
theorem dX11_clause_247 : decode cX11_clause 247 = .ok (.invokevirtual 174, 3) := by decide +kernel
theorem dX11_clause_250 : decode cX11_clause 250 = .ok (.goto 88, 3) := by decide +kernel
theorem dX11_clause_253 : decode cX11_clause 253 = .ok (.iload_n 1, 1) := by decide +kernel
theorem dX11_clause_254 : decode cX11_clause 254 = .ok (.iconst 5, 1) := by decide +kernel
theorem dX11_clause_255 : decode cX11_clause 255 = .ok (.if_icmp .ne 20, 3) := by decide +kernel
theorem dX11_clause_258 : decode cX11_clause 258 = .ok (.aload_n 0, 1) := by decide +kernel
theorem dX11_clause_259 : decode cX11_clause 259 = .ok (.getfield 17, 3) := by decide +kernel
theorem dX11_clause_262 : decode cX11_clause 262 = .ok (.iconst 5, 1) := by decide +kernel
theorem dX11_clause_263 : decode cX11_clause 263 = .ok (.aload_n 0, 1) := by decide +kernel
theorem dX11_clause_264 : decode cX11_clause 264 = .ok (.iconst 3, 1) := by decide +kernel
theorem dX11_clause_265 : decode cX11_clause 265 = .ok (.bipush 11, 2) := by decide +kernel
theorem dX11_clause_267 : decode cX11_clause 267 = .ok (.iconst (-1), 1) := by decide +kernel
theorem dX11_clause_268 : decode cX11_clause 268 = .ok (.invokevirtual 163, 3) := by decide +kernel
theorem dX11_clause_271 : decode cX11_clause 271 = .ok (.iastore, 1) := by decide +kernel
theorem dX11_clause_272 : decode cX11_clause 272 = .ok (.goto 66, 3) := by decide +kernel
theorem dX11_clause_275 : decode cX11_clause 275 = .ok (.aload_n 0, 1) := by decide +kernel
theorem dX11_clause_276 : decode cX11_clause 276 = .ok (.iconst 0, 1) := by decide +kernel
theorem dX11_clause_277 : decode cX11_clause 277 = .ok (.aload_n 0, 1) := by decide +kernel
theorem dX11_clause_278 : decode cX11_clause 278 = .ok (.getfield 17, 3) := by decide +kernel
theorem dX11_clause_281 : decode cX11_clause 281 = .ok (.iconst 3, 1) := by decide +kernel
theorem dX11_clause_282 : decode cX11_clause 282 = .ok (.iaload, 1) := by decide +kernel
theorem dX11_clause_283 : decode cX11_clause 283 = .ok (.iconst 1, 1) := by decide +kernel
theorem dX11_clause_284 : decode cX11_clause 284 = .ok (.isub, 1) := by decide +kernel
theorem dX11_clause_285 : decode cX11_clause 285 = .ok (.iconst (-1), 1) := by decide +kernel
theorem dX11_clause_286 : decode cX11_clause 286 = .ok (.invokevirtual 163, 3) := by decide +kernel
theorem dX11_clause_289 : decode cX11_clause 289 = .ok (.istore_n 2, 1) := by decide +kernel
theorem dX11_clause_290 : decode cX11_clause 290 = .ok (.aload_n 0, 1) := by decide +kernel
theorem dX11_clause_291 : decode cX11_clause 291 = .ok (.iload_n 1, 1) := by decide +kernel
theorem dX11_clause_292 : decode cX11_clause 292 = .ok (.bipush 6, 2) := by decide +kernel
theorem dX11_clause_294 : decode cX11_clause 294 = .ok (.if_icmp .ne 7, 3) := by decide +kernel
theorem dX11_clause_297 : decode cX11_clause 297 = .ok (.iconst 1, 1) := by decide +kernel
theorem dX11_clause_298 : decode cX11_clause 298 = .ok (.goto 4, 3) := by decide +kernel
theorem dX11_clause_301 : decode cX11_clause 301 = .ok (.iconst 0, 1) := by decide +kernel
theorem dX11_clause_302 : decode cX11_clause 302 = .ok (.iload_n 1, 1) := by decide +kernel
theorem dX11_clause_303 : decode cX11_clause 303 = .ok (.bipush 6, 2) := by decide +kernel
theorem dX11_clause_305 : decode cX11_clause 305 = .ok (.if_icmp .ne 8, 3) := by decide +kernel
theorem dX11_clause_308 : decode cX11_clause 308 = .ok (.bipush 8, 2) := by decide +kernel
theorem dX11_clause_310 : decode cX11_clause 310 = .ok (.goto 5, 3) := by decide +kernel
theorem dX11_clause_313 : decode cX11_clause 313 = .ok (.bipush 6, 2) := by decide +kernel
theorem dX11_clause_315 : decode cX11_clause 315 = .ok (.iconst (-1), 1) := by decide +kernel
theorem dX11_clause_316 : decode cX11_clause 316 = .ok (.invokevirtual 163, 3) := by decide +kernel
theorem dX11_clause_319 : decode cX11_clause 319 = .ok (.istore_n 3, 1) := by decide +kernel
theorem dX11_clause_320 : decode cX11_clause 320 = .ok (.aload_n 0, 1) := by decide +kernel
theorem dX11_clause_321 : decode cX11_clause 321 = .ok (.getfield 120, 3) := by decide +kernel
theorem dX11_clause_324 : decode cX11_clause 324 = .ok (.ifCond .ne 14, 3) := by decide +kernel
theorem dX11_clause_327 : decode cX11_clause 327 = .ok (.aload_n 0, 1) := by decide +kernel
theorem dX11_clause_328 : decode cX11_clause 328 = .ok (.getfield 43, 3) := by decide +kernel
theorem dX11_clause_331 : decode cX11_clause 331 = .ok (.iload_n 2, 1) := by decide +kernel
theorem dX11_clause_332 : decode cX11_clause 332 = .ok (.aaload, 1) := by decide +kernel
theorem dX11_clause_333 : decode cX11_clause 333 = .ok (.iload_n 1, 1) := by decide +kernel
theorem dX11_clause_334 : decode cX11_clause 334 = .ok (.iconst 2, 1) := by decide +kernel
theorem dX11_clause_335 : decode cX11_clause 335 = .ok (.isub, 1) := by decide +kernel
theorem dX11_clause_336 : decode cX11_clause 336 = .ok (.iload_n 3, 1) := by decide +kernel
theorem dX11_clause_337 : decode cX11_clause 337 = .ok (.iastore, 1) := by decide +kernel
theorem dX11_clause_338 : decode cX11_clause 338 = .ok (.aload_n 0, 1) := by decide +kernel
theorem dX11_clause_339 : decode cX11_clause 339 = .ok (.bipush 59, 2) := by decide +kernel
theorem dX11_clause_341 : decode cX11_clause 341 = .ok (.invokevirtual 177, 3) := by decide +kernel
theorem dX11_clause_344 : decode cX11_clause 344 = .ok (.return_, 1) := by decide +kernel
theorem dX11_readsRoad_0 : decode cX11_readsRoad 0 = .ok (.aload_n 1, 1) := by decide +kernel
theorem dX11_readsRoad_1 : decode cX11_readsRoad 1 = .ok (.iconst 0, 1) := by decide +kernel
theorem dX11_readsRoad_2 : decode cX11_readsRoad 2 = .ok (.aload_n 0, 1) := by decide +kernel
theorem dX11_readsRoad_3 : decode cX11_readsRoad 3 = .ok (.iconst 0, 1) := by decide +kernel
theorem dX11_readsRoad_4 : decode cX11_readsRoad 4 = .ok (.aload_n 0, 1) := by decide +kernel
theorem dX11_readsRoad_5 : decode cX11_readsRoad 5 = .ok (.getfield 17, 3) := by decide +kernel
theorem dX11_readsRoad_8 : decode cX11_readsRoad 8 = .ok (.iconst 0, 1) := by decide +kernel
theorem dX11_readsRoad_9 : decode cX11_readsRoad 9 = .ok (.iaload, 1) := by decide +kernel
theorem dX11_readsRoad_10 : decode cX11_readsRoad 10 = .ok (.iconst 1, 1) := by decide +kernel
theorem dX11_readsRoad_11 : decode cX11_readsRoad 11 = .ok (.isub, 1) := by decide +kernel
theorem dX11_readsRoad_12 : decode cX11_readsRoad 12 = .ok (.iconst (-1), 1) := by decide +kernel
theorem dX11_readsRoad_13 : decode cX11_readsRoad 13 = .ok (.invokevirtual 163, 3) := by decide +kernel
theorem dX11_readsRoad_16 : decode cX11_readsRoad 16 = .ok (.iastore, 1) := by decide +kernel
theorem dX11_readsRoad_17 : decode cX11_readsRoad 17 = .ok (.aload_n 1, 1) := by decide +kernel
theorem dX11_readsRoad_18 : decode cX11_readsRoad 18 = .ok (.iconst 1, 1) := by decide +kernel
theorem dX11_readsRoad_19 : decode cX11_readsRoad 19 = .ok (.aload_n 0, 1) := by decide +kernel
theorem dX11_readsRoad_20 : decode cX11_readsRoad 20 = .ok (.iconst 0, 1) := by decide +kernel
theorem dX11_readsRoad_21 : decode cX11_readsRoad 21 = .ok (.aload_n 0, 1) := by decide +kernel
theorem dX11_readsRoad_22 : decode cX11_readsRoad 22 = .ok (.getfield 17, 3) := by decide +kernel
theorem dX11_readsRoad_25 : decode cX11_readsRoad 25 = .ok (.iconst 0, 1) := by decide +kernel
theorem dX11_readsRoad_26 : decode cX11_readsRoad 26 = .ok (.iaload, 1) := by decide +kernel
theorem dX11_readsRoad_27 : decode cX11_readsRoad 27 = .ok (.iconst 1, 1) := by decide +kernel
theorem dX11_readsRoad_28 : decode cX11_readsRoad 28 = .ok (.isub, 1) := by decide +kernel
theorem dX11_readsRoad_29 : decode cX11_readsRoad 29 = .ok (.aload_n 1, 1) := by decide +kernel
theorem dX11_readsRoad_30 : decode cX11_readsRoad 30 = .ok (.iconst 0, 1) := by decide +kernel
theorem dX11_readsRoad_31 : decode cX11_readsRoad 31 = .ok (.iaload, 1) := by decide +kernel
theorem dX11_readsRoad_32 : decode cX11_readsRoad 32 = .ok (.invokevirtual 163, 3) := by decide +kernel
theorem dX11_readsRoad_35 : decode cX11_readsRoad 35 = .ok (.iastore, 1) := by decide +kernel
theorem dX11_readsRoad_36 : decode cX11_readsRoad 36 = .ok (.aload_n 1, 1) := by decide +kernel
theorem dX11_readsRoad_37 : decode cX11_readsRoad 37 = .ok (.iconst 2, 1) := by decide +kernel
theorem dX11_readsRoad_38 : decode cX11_readsRoad 38 = .ok (.aload_n 0, 1) := by decide +kernel
theorem dX11_readsRoad_39 : decode cX11_readsRoad 39 = .ok (.iconst 1, 1) := by decide +kernel
theorem dX11_readsRoad_40 : decode cX11_readsRoad 40 = .ok (.bipush 99, 2) := by decide +kernel
theorem dX11_readsRoad_42 : decode cX11_readsRoad 42 = .ok (.iconst (-1), 1) := by decide +kernel
theorem dX11_readsRoad_43 : decode cX11_readsRoad 43 = .ok (.invokevirtual 163, 3) := by decide +kernel
theorem dX11_readsRoad_46 : decode cX11_readsRoad 46 = .ok (.iastore, 1) := by decide +kernel
theorem dX11_readsRoad_47 : decode cX11_readsRoad 47 = .ok (.aload_n 1, 1) := by decide +kernel
theorem dX11_readsRoad_48 : decode cX11_readsRoad 48 = .ok (.iconst 3, 1) := by decide +kernel
theorem dX11_readsRoad_49 : decode cX11_readsRoad 49 = .ok (.aload_n 0, 1) := by decide +kernel
theorem dX11_readsRoad_50 : decode cX11_readsRoad 50 = .ok (.iconst 0, 1) := by decide +kernel
theorem dX11_readsRoad_51 : decode cX11_readsRoad 51 = .ok (.bipush 9, 2) := by decide +kernel
theorem dX11_readsRoad_53 : decode cX11_readsRoad 53 = .ok (.iconst (-1), 1) := by decide +kernel
theorem dX11_readsRoad_54 : decode cX11_readsRoad 54 = .ok (.invokevirtual 163, 3) := by decide +kernel
theorem dX11_readsRoad_57 : decode cX11_readsRoad 57 = .ok (.iastore, 1) := by decide +kernel
theorem dX11_readsRoad_58 : decode cX11_readsRoad 58 = .ok (.aload_n 1, 1) := by decide +kernel
theorem dX11_readsRoad_59 : decode cX11_readsRoad 59 = .ok (.iconst 4, 1) := by decide +kernel
theorem dX11_readsRoad_60 : decode cX11_readsRoad 60 = .ok (.aload_n 0, 1) := by decide +kernel
theorem dX11_readsRoad_61 : decode cX11_readsRoad 61 = .ok (.iconst 1, 1) := by decide +kernel
theorem dX11_readsRoad_62 : decode cX11_readsRoad 62 = .ok (.bipush 30, 2) := by decide +kernel
theorem dX11_readsRoad_64 : decode cX11_readsRoad 64 = .ok (.iconst (-1), 1) := by decide +kernel
theorem dX11_readsRoad_65 : decode cX11_readsRoad 65 = .ok (.invokevirtual 163, 3) := by decide +kernel
theorem dX11_readsRoad_68 : decode cX11_readsRoad 68 = .ok (.iastore, 1) := by decide +kernel
theorem dX11_readsRoad_69 : decode cX11_readsRoad 69 = .ok (.return_, 1) := by decide +kernel
theorem dX11_readsGoing_0 : decode cX11_readsGoing 0 = .ok (.aload_n 1, 1) := by decide +kernel
theorem dX11_readsGoing_1 : decode cX11_readsGoing 1 = .ok (.iconst 0, 1) := by decide +kernel
theorem dX11_readsGoing_2 : decode cX11_readsGoing 2 = .ok (.aload_n 0, 1) := by decide +kernel
theorem dX11_readsGoing_3 : decode cX11_readsGoing 3 = .ok (.iconst 0, 1) := by decide +kernel
theorem dX11_readsGoing_4 : decode cX11_readsGoing 4 = .ok (.aload_n 0, 1) := by decide +kernel
theorem dX11_readsGoing_5 : decode cX11_readsGoing 5 = .ok (.getfield 17, 3) := by decide +kernel
theorem dX11_readsGoing_8 : decode cX11_readsGoing 8 = .ok (.iconst 0, 1) := by decide +kernel
theorem dX11_readsGoing_9 : decode cX11_readsGoing 9 = .ok (.iaload, 1) := by decide +kernel
theorem dX11_readsGoing_10 : decode cX11_readsGoing 10 = .ok (.iconst 1, 1) := by decide +kernel
theorem dX11_readsGoing_11 : decode cX11_readsGoing 11 = .ok (.isub, 1) := by decide +kernel
theorem dX11_readsGoing_12 : decode cX11_readsGoing 12 = .ok (.iconst (-1), 1) := by decide +kernel
theorem dX11_readsGoing_13 : decode cX11_readsGoing 13 = .ok (.invokevirtual 163, 3) := by decide +kernel
theorem dX11_readsGoing_16 : decode cX11_readsGoing 16 = .ok (.iastore, 1) := by decide +kernel
theorem dX11_readsGoing_17 : decode cX11_readsGoing 17 = .ok (.aload_n 1, 1) := by decide +kernel
theorem dX11_readsGoing_18 : decode cX11_readsGoing 18 = .ok (.iconst 1, 1) := by decide +kernel
theorem dX11_readsGoing_19 : decode cX11_readsGoing 19 = .ok (.aload_n 0, 1) := by decide +kernel
theorem dX11_readsGoing_20 : decode cX11_readsGoing 20 = .ok (.iconst 0, 1) := by decide +kernel
theorem dX11_readsGoing_21 : decode cX11_readsGoing 21 = .ok (.aload_n 0, 1) := by decide +kernel
theorem dX11_readsGoing_22 : decode cX11_readsGoing 22 = .ok (.getfield 17, 3) := by decide +kernel
theorem dX11_readsGoing_25 : decode cX11_readsGoing 25 = .ok (.iconst 0, 1) := by decide +kernel
theorem dX11_readsGoing_26 : decode cX11_readsGoing 26 = .ok (.iaload, 1) := by decide +kernel
theorem dX11_readsGoing_27 : decode cX11_readsGoing 27 = .ok (.iconst 1, 1) := by decide +kernel
theorem dX11_readsGoing_28 : decode cX11_readsGoing 28 = .ok (.isub, 1) := by decide +kernel
theorem dX11_readsGoing_29 : decode cX11_readsGoing 29 = .ok (.aload_n 1, 1) := by decide +kernel
theorem dX11_readsGoing_30 : decode cX11_readsGoing 30 = .ok (.iconst 0, 1) := by decide +kernel
theorem dX11_readsGoing_31 : decode cX11_readsGoing 31 = .ok (.iaload, 1) := by decide +kernel
theorem dX11_readsGoing_32 : decode cX11_readsGoing 32 = .ok (.invokevirtual 163, 3) := by decide +kernel
theorem dX11_readsGoing_35 : decode cX11_readsGoing 35 = .ok (.iastore, 1) := by decide +kernel
theorem dX11_readsGoing_36 : decode cX11_readsGoing 36 = .ok (.aload_n 1, 1) := by decide +kernel
theorem dX11_readsGoing_37 : decode cX11_readsGoing 37 = .ok (.iconst 2, 1) := by decide +kernel
theorem dX11_readsGoing_38 : decode cX11_readsGoing 38 = .ok (.aload_n 0, 1) := by decide +kernel
theorem dX11_readsGoing_39 : decode cX11_readsGoing 39 = .ok (.iconst 1, 1) := by decide +kernel
theorem dX11_readsGoing_40 : decode cX11_readsGoing 40 = .ok (.bipush 127, 2) := by decide +kernel
theorem dX11_readsGoing_42 : decode cX11_readsGoing 42 = .ok (.iconst (-1), 1) := by decide +kernel
theorem dX11_readsGoing_43 : decode cX11_readsGoing 43 = .ok (.invokevirtual 163, 3) := by decide +kernel
theorem dX11_readsGoing_46 : decode cX11_readsGoing 46 = .ok (.iastore, 1) := by decide +kernel
theorem dX11_readsGoing_47 : decode cX11_readsGoing 47 = .ok (.aload_n 1, 1) := by decide +kernel
theorem dX11_readsGoing_48 : decode cX11_readsGoing 48 = .ok (.iconst 3, 1) := by decide +kernel
theorem dX11_readsGoing_49 : decode cX11_readsGoing 49 = .ok (.aload_n 0, 1) := by decide +kernel
theorem dX11_readsGoing_50 : decode cX11_readsGoing 50 = .ok (.iconst 1, 1) := by decide +kernel
theorem dX11_readsGoing_51 : decode cX11_readsGoing 51 = .ok (.bipush 9, 2) := by decide +kernel
theorem dX11_readsGoing_53 : decode cX11_readsGoing 53 = .ok (.iconst (-1), 1) := by decide +kernel
theorem dX11_readsGoing_54 : decode cX11_readsGoing 54 = .ok (.invokevirtual 163, 3) := by decide +kernel
theorem dX11_readsGoing_57 : decode cX11_readsGoing 57 = .ok (.iastore, 1) := by decide +kernel
theorem dX11_readsGoing_58 : decode cX11_readsGoing 58 = .ok (.aload_n 1, 1) := by decide +kernel
theorem dX11_readsGoing_59 : decode cX11_readsGoing 59 = .ok (.iconst 4, 1) := by decide +kernel
theorem dX11_readsGoing_60 : decode cX11_readsGoing 60 = .ok (.bipush 8, 2) := by decide +kernel
theorem dX11_readsGoing_62 : decode cX11_readsGoing 62 = .ok (.iastore, 1) := by decide +kernel
theorem dX11_readsGoing_63 : decode cX11_readsGoing 63 = .ok (.aload_n 1, 1) := by decide +kernel
theorem dX11_readsGoing_64 : decode cX11_readsGoing 64 = .ok (.iconst 5, 1) := by decide +kernel
theorem dX11_readsGoing_65 : decode cX11_readsGoing 65 = .ok (.iconst 0, 1) := by decide +kernel
theorem dX11_readsGoing_66 : decode cX11_readsGoing 66 = .ok (.iastore, 1) := by decide +kernel
theorem dX11_readsGoing_67 : decode cX11_readsGoing 67 = .ok (.return_, 1) := by decide +kernel
theorem dX11_readsWet_0 : decode cX11_readsWet 0 = .ok (.aload_n 0, 1) := by decide +kernel
theorem dX11_readsWet_1 : decode cX11_readsWet 1 = .ok (.iconst 0, 1) := by decide +kernel
theorem dX11_readsWet_2 : decode cX11_readsWet 2 = .ok (.sipush 999, 3) := by decide +kernel
theorem dX11_readsWet_5 : decode cX11_readsWet 5 = .ok (.iconst (-1), 1) := by decide +kernel
theorem dX11_readsWet_6 : decode cX11_readsWet 6 = .ok (.invokevirtual 163, 3) := by decide +kernel
theorem dX11_readsWet_9 : decode cX11_readsWet 9 = .ok (.istore_n 1, 1) := by decide +kernel
theorem dX11_readsWet_10 : decode cX11_readsWet 10 = .ok (.iconst 0, 1) := by decide +kernel
theorem dX11_readsWet_11 : decode cX11_readsWet 11 = .ok (.istore_n 2, 1) := by decide +kernel
theorem dX11_readsWet_12 : decode cX11_readsWet 12 = .ok (.iconst 0, 1) := by decide +kernel
theorem dX11_readsWet_13 : decode cX11_readsWet 13 = .ok (.istore_n 3, 1) := by decide +kernel
theorem dX11_readsWet_14 : decode cX11_readsWet 14 = .ok (.iload_n 3, 1) := by decide +kernel
theorem dX11_readsWet_15 : decode cX11_readsWet 15 = .ok (.aload_n 0, 1) := by decide +kernel
theorem dX11_readsWet_16 : decode cX11_readsWet 16 = .ok (.getfield 17, 3) := by decide +kernel
theorem dX11_readsWet_19 : decode cX11_readsWet 19 = .ok (.iconst 4, 1) := by decide +kernel
theorem dX11_readsWet_20 : decode cX11_readsWet 20 = .ok (.iaload, 1) := by decide +kernel
theorem dX11_readsWet_21 : decode cX11_readsWet 21 = .ok (.if_icmp .ge 29, 3) := by decide +kernel
theorem dX11_readsWet_24 : decode cX11_readsWet 24 = .ok (.iload_n 2, 1) := by decide +kernel
theorem dX11_readsWet_25 : decode cX11_readsWet 25 = .ok (.ifCond .ne 13, 3) := by decide +kernel
theorem dX11_readsWet_28 : decode cX11_readsWet 28 = .ok (.aload_n 0, 1) := by decide +kernel
theorem dX11_readsWet_29 : decode cX11_readsWet 29 = .ok (.getfield 23, 3) := by decide +kernel
theorem dX11_readsWet_32 : decode cX11_readsWet 32 = .ok (.iload_n 3, 1) := by decide +kernel
theorem dX11_readsWet_33 : decode cX11_readsWet 33 = .ok (.iaload, 1) := by decide +kernel
theorem dX11_readsWet_34 : decode cX11_readsWet 34 = .ok (.iload_n 1, 1) := by decide +kernel
theorem dX11_readsWet_35 : decode cX11_readsWet 35 = .ok (.if_icmp .ne 7, 3) := by decide +kernel
theorem dX11_readsWet_38 : decode cX11_readsWet 38 = .ok (.iconst 1, 1) := by decide +kernel
theorem dX11_readsWet_39 : decode cX11_readsWet 39 = .ok (.goto 4, 3) := by decide +kernel
theorem dX11_readsWet_42 : decode cX11_readsWet 42 = .ok (.iconst 0, 1) := by decide +kernel
theorem dX11_readsWet_43 : decode cX11_readsWet 43 = .ok (.istore_n 2, 1) := by decide +kernel
theorem dX11_readsWet_44 : decode cX11_readsWet 44 = .ok (.iinc 3 1, 3) := by decide +kernel
theorem dX11_readsWet_47 : decode cX11_readsWet 47 = .ok (.goto (-33), 3) := by decide +kernel
theorem dX11_readsWet_50 : decode cX11_readsWet 50 = .ok (.iload_n 2, 1) := by decide +kernel
theorem dX11_readsWet_51 : decode cX11_readsWet 51 = .ok (.ifCond .ne 10, 3) := by decide +kernel
theorem dX11_readsWet_54 : decode cX11_readsWet 54 = .ok (.aload_n 0, 1) := by decide +kernel
theorem dX11_readsWet_55 : decode cX11_readsWet 55 = .ok (.getfield 120, 3) := by decide +kernel
theorem dX11_readsWet_58 : decode cX11_readsWet 58 = .ok (.ifCond .eq 4, 3) := by decide +kernel
theorem dX11_readsWet_61 : decode cX11_readsWet 61 = .ok (.return_, 1) := by decide +kernel
theorem dX11_readsWet_62 : decode cX11_readsWet 62 = .ok (.aload_n 0, 1) := by decide +kernel
theorem dX11_readsWet_63 : decode cX11_readsWet 63 = .ok (.getfield 23, 3) := by decide +kernel
theorem dX11_readsWet_66 : decode cX11_readsWet 66 = .ok (.aload_n 0, 1) := by decide +kernel
theorem dX11_readsWet_67 : decode cX11_readsWet 67 = .ok (.getfield 17, 3) := by decide +kernel
theorem dX11_readsWet_70 : decode cX11_readsWet 70 = .ok (.iconst 4, 1) := by decide +kernel
theorem dX11_readsWet_71 : decode cX11_readsWet 71 = .ok (.iaload, 1) := by decide +kernel
theorem dX11_readsWet_72 : decode cX11_readsWet 72 = .ok (.iload_n 1, 1) := by decide +kernel
theorem dX11_readsWet_73 : decode cX11_readsWet 73 = .ok (.iastore, 1) := by decide +kernel
theorem dX11_readsWet_74 : decode cX11_readsWet 74 = .ok (.aload_n 0, 1) := by decide +kernel
theorem dX11_readsWet_75 : decode cX11_readsWet 75 = .ok (.getfield 17, 3) := by decide +kernel
theorem dX11_readsWet_78 : decode cX11_readsWet 78 = .ok (.iconst 4, 1) := by decide +kernel
theorem dX11_readsWet_79 : decode cX11_readsWet 79 = .ok (.dup2, 1) := by decide +kernel
theorem dX11_readsWet_80 : decode cX11_readsWet 80 = .ok (.iaload, 1) := by decide +kernel
theorem dX11_readsWet_81 : decode cX11_readsWet 81 = .ok (.iconst 1, 1) := by decide +kernel
theorem dX11_readsWet_82 : decode cX11_readsWet 82 = .ok (.iadd, 1) := by decide +kernel
theorem dX11_readsWet_83 : decode cX11_readsWet 83 = .ok (.iastore, 1) := by decide +kernel
theorem dX11_readsWet_84 : decode cX11_readsWet 84 = .ok (.return_, 1) := by decide +kernel
theorem dX11_land_0 : decode cX11_land 0 = .ok (.aload_n 0, 1) := by decide +kernel
theorem dX11_land_1 : decode cX11_land 1 = .ok (.iconst 0, 1) := by decide +kernel
theorem dX11_land_2 : decode cX11_land 2 = .ok (.putfield 104, 3) := by decide +kernel
theorem dX11_land_5 : decode cX11_land 5 = .ok (.aload_n 0, 1) := by decide +kernel
theorem dX11_land_6 : decode cX11_land 6 = .ok (.iload_n 1, 1) := by decide +kernel
theorem dX11_land_7 : decode cX11_land 7 = .ok (.iconst 0, 1) := by decide +kernel
theorem dX11_land_8 : decode cX11_land 8 = .ok (.aload_n 0, 1) := by decide +kernel
theorem dX11_land_9 : decode cX11_land 9 = .ok (.getfield 107, 3) := by decide +kernel
theorem dX11_land_12 : decode cX11_land 12 = .ok (.invokestatic 138, 3) := by decide +kernel
theorem dX11_land_15 : decode cX11_land 15 = .ok (.ifCond .ne 7, 3) := by decide +kernel
theorem dX11_land_18 : decode cX11_land 18 = .ok (.iconst 1, 1) := by decide +kernel
theorem dX11_land_19 : decode cX11_land 19 = .ok (.goto 4, 3) := by decide +kernel
theorem dX11_land_22 : decode cX11_land 22 = .ok (.iconst 0, 1) := by decide +kernel
theorem dX11_land_23 : decode cX11_land 23 = .ok (.iconst 1, 1) := by decide +kernel
theorem dX11_land_24 : decode cX11_land 24 = .ok (.invokevirtual 181, 3) := by decide +kernel
theorem dX11_land_27 : decode cX11_land 27 = .ok (.ifCond .eq 5, 3) := by decide +kernel
theorem dX11_land_30 : decode cX11_land 30 = .ok (.iconst 0, 1) := by decide +kernel
theorem dX11_land_31 : decode cX11_land 31 = .ok (.ireturn, 1) := by decide +kernel
theorem dX11_land_32 : decode cX11_land 32 = .ok (.aload_n 0, 1) := by decide +kernel
theorem dX11_land_33 : decode cX11_land 33 = .ok (.iconst 0, 1) := by decide +kernel
theorem dX11_land_34 : decode cX11_land 34 = .ok (.putfield 107, 3) := by decide +kernel
theorem dX11_land_37 : decode cX11_land 37 = .ok (.aload_n 0, 1) := by decide +kernel
theorem dX11_land_38 : decode cX11_land 38 = .ok (.iload_n 1, 1) := by decide +kernel
theorem dX11_land_39 : decode cX11_land 39 = .ok (.putfield 110, 3) := by decide +kernel
theorem dX11_land_42 : decode cX11_land 42 = .ok (.aload_n 0, 1) := by decide +kernel
theorem dX11_land_43 : decode cX11_land 43 = .ok (.iconst 0, 1) := by decide +kernel
theorem dX11_land_44 : decode cX11_land 44 = .ok (.putfield 113, 3) := by decide +kernel
theorem dX11_land_47 : decode cX11_land 47 = .ok (.aload_n 0, 1) := by decide +kernel
theorem dX11_land_48 : decode cX11_land 48 = .ok (.iconst 0, 1) := by decide +kernel
theorem dX11_land_49 : decode cX11_land 49 = .ok (.putfield 120, 3) := by decide +kernel
theorem dX11_land_52 : decode cX11_land 52 = .ok (.aload_n 0, 1) := by decide +kernel
theorem dX11_land_53 : decode cX11_land 53 = .ok (.iconst (-1), 1) := by decide +kernel
theorem dX11_land_54 : decode cX11_land 54 = .ok (.putfield 123, 3) := by decide +kernel
theorem dX11_land_57 : decode cX11_land 57 = .ok (.aload_n 0, 1) := by decide +kernel
theorem dX11_land_58 : decode cX11_land 58 = .ok (.iconst 0, 1) := by decide +kernel
theorem dX11_land_59 : decode cX11_land 59 = .ok (.putfield 157, 3) := by decide +kernel
theorem dX11_land_62 : decode cX11_land 62 = .ok (.iconst 0, 1) := by decide +kernel
theorem dX11_land_63 : decode cX11_land 63 = .ok (.istore_n 2, 1) := by decide +kernel
theorem dX11_land_64 : decode cX11_land 64 = .ok (.iload_n 2, 1) := by decide +kernel
theorem dX11_land_65 : decode cX11_land 65 = .ok (.bipush 6, 2) := by decide +kernel
theorem dX11_land_67 : decode cX11_land 67 = .ok (.if_icmp .ge 34, 3) := by decide +kernel
theorem dX11_land_70 : decode cX11_land 70 = .ok (.aload_n 0, 1) := by decide +kernel
theorem dX11_land_71 : decode cX11_land 71 = .ok (.getfield 17, 3) := by decide +kernel
theorem dX11_land_74 : decode cX11_land 74 = .ok (.iload_n 2, 1) := by decide +kernel
theorem dX11_land_75 : decode cX11_land 75 = .ok (.iload_n 2, 1) := by decide +kernel
theorem dX11_land_76 : decode cX11_land 76 = .ok (.ifCond .ne 7, 3) := by decide +kernel
theorem dX11_land_79 : decode cX11_land 79 = .ok (.iconst 4, 1) := by decide +kernel
theorem dX11_land_80 : decode cX11_land 80 = .ok (.goto 14, 3) := by decide +kernel
theorem dX11_land_83 : decode cX11_land 83 = .ok (.iload_n 2, 1) := by decide +kernel
theorem dX11_land_84 : decode cX11_land 84 = .ok (.iconst 5, 1) := by decide +kernel
theorem dX11_land_85 : decode cX11_land 85 = .ok (.if_icmp .ne 8, 3) := by decide +kernel
theorem dX11_land_88 : decode cX11_land 88 = .ok (.bipush 9, 2) := by decide +kernel
theorem dX11_land_90 : decode cX11_land 90 = .ok (.goto 4, 3) := by decide +kernel
theorem dX11_land_93 : decode cX11_land 93 = .ok (.iconst 0, 1) := by decide +kernel
theorem dX11_land_94 : decode cX11_land 94 = .ok (.iastore, 1) := by decide +kernel
theorem dX11_land_95 : decode cX11_land 95 = .ok (.iinc 2 1, 3) := by decide +kernel
theorem dX11_land_98 : decode cX11_land 98 = .ok (.goto (-34), 3) := by decide +kernel
theorem dX11_land_101 : decode cX11_land 101 = .ok (.aload_n 0, 1) := by decide +kernel
theorem dX11_land_102 : decode cX11_land 102 = .ok (.invokevirtual 126, 3) := by decide +kernel
theorem dX11_land_105 : decode cX11_land 105 = .ok (.aload_n 0, 1) := by decide +kernel
theorem dX11_land_106 : decode cX11_land 106 = .ok (.getfield 120, 3) := by decide +kernel
theorem dX11_land_109 : decode cX11_land 109 = .ok (.ifCond .ne 25, 3) := by decide +kernel
theorem dX11_land_112 : decode cX11_land 112 = .ok (.aload_n 0, 1) := by decide +kernel
theorem dX11_land_113 : decode cX11_land 113 = .ok (.getfield 113, 3) := by decide +kernel
theorem dX11_land_116 : decode cX11_land 116 = .ok (.aload_n 0, 1) := by decide +kernel
theorem dX11_land_117 : decode cX11_land 117 = .ok (.getfield 110, 3) := by decide +kernel
theorem dX11_land_120 : decode cX11_land 120 = .ok (.if_icmp .ge 14, 3) := by decide +kernel
theorem dX11_land_123 : decode cX11_land 123 = .ok (.aload_n 0, 1) := by decide +kernel
theorem dX11_land_124 : decode cX11_land 124 = .ok (.invokevirtual 185, 3) := by decide +kernel
theorem dX11_land_127 : decode cX11_land 127 = .ok (.aload_n 0, 1) := by decide +kernel
theorem dX11_land_128 : decode cX11_land 128 = .ok (.invokevirtual 126, 3) := by decide +kernel
theorem dX11_land_131 : decode cX11_land 131 = .ok (.goto (-26), 3) := by decide +kernel
theorem dX11_land_134 : decode cX11_land 134 = .ok (.aload_n 0, 1) := by decide +kernel
theorem dX11_land_135 : decode cX11_land 135 = .ok (.aload_n 0, 1) := by decide +kernel
theorem dX11_land_136 : decode cX11_land 136 = .ok (.getfield 123, 3) := by decide +kernel
theorem dX11_land_139 : decode cX11_land 139 = .ok (.putfield 9, 3) := by decide +kernel
theorem dX11_land_142 : decode cX11_land 142 = .ok (.aload_n 0, 1) := by decide +kernel
theorem dX11_land_143 : decode cX11_land 143 = .ok (.getfield 120, 3) := by decide +kernel
theorem dX11_land_146 : decode cX11_land 146 = .ok (.ifCond .eq 11, 3) := by decide +kernel
theorem dX11_land_149 : decode cX11_land 149 = .ok (.aload_n 0, 1) := by decide +kernel
theorem dX11_land_150 : decode cX11_land 150 = .ok (.getfield 120, 3) := by decide +kernel
theorem dX11_land_153 : decode cX11_land 153 = .ok (.bipush 10, 2) := by decide +kernel
theorem dX11_land_155 : decode cX11_land 155 = .ok (.isub, 1) := by decide +kernel
theorem dX11_land_156 : decode cX11_land 156 = .ok (.ireturn, 1) := by decide +kernel
theorem dX11_land_157 : decode cX11_land 157 = .ok (.iconst 0, 1) := by decide +kernel
theorem dX11_land_158 : decode cX11_land 158 = .ok (.istore_n 2, 1) := by decide +kernel
theorem dX11_land_159 : decode cX11_land 159 = .ok (.iload_n 2, 1) := by decide +kernel
theorem dX11_land_160 : decode cX11_land 160 = .ok (.bipush 6, 2) := by decide +kernel
theorem dX11_land_162 : decode cX11_land 162 = .ok (.if_icmp .ge 21, 3) := by decide +kernel
theorem dX11_land_165 : decode cX11_land 165 = .ok (.aload_n 0, 1) := by decide +kernel
theorem dX11_land_166 : decode cX11_land 166 = .ok (.getfield 20, 3) := by decide +kernel
theorem dX11_land_169 : decode cX11_land 169 = .ok (.iload_n 2, 1) := by decide +kernel
theorem dX11_land_170 : decode cX11_land 170 = .ok (.aload_n 0, 1) := by decide +kernel
theorem dX11_land_171 : decode cX11_land 171 = .ok (.getfield 17, 3) := by decide +kernel
theorem dX11_land_174 : decode cX11_land 174 = .ok (.iload_n 2, 1) := by decide +kernel
theorem dX11_land_175 : decode cX11_land 175 = .ok (.iaload, 1) := by decide +kernel
theorem dX11_land_176 : decode cX11_land 176 = .ok (.iastore, 1) := by decide +kernel
theorem dX11_land_177 : decode cX11_land 177 = .ok (.iinc 2 1, 3) := by decide +kernel
theorem dX11_land_180 : decode cX11_land 180 = .ok (.goto (-21), 3) := by decide +kernel
theorem dX11_land_183 : decode cX11_land 183 = .ok (.iconst 0, 1) := by decide +kernel
theorem dX11_land_184 : decode cX11_land 184 = .ok (.istore_n 2, 1) := by decide +kernel
theorem dX11_land_185 : decode cX11_land 185 = .ok (.iload_n 2, 1) := by decide +kernel
theorem dX11_land_186 : decode cX11_land 186 = .ok (.aload_n 0, 1) := by decide +kernel
theorem dX11_land_187 : decode cX11_land 187 = .ok (.getfield 20, 3) := by decide +kernel
theorem dX11_land_190 : decode cX11_land 190 = .ok (.iconst 1, 1) := by decide +kernel
theorem dX11_land_191 : decode cX11_land 191 = .ok (.iaload, 1) := by decide +kernel
theorem dX11_land_192 : decode cX11_land 192 = .ok (.if_icmp .ge 38, 3) := by decide +kernel
theorem dX11_land_195 : decode cX11_land 195 = .ok (.iconst 0, 1) := by decide +kernel
theorem dX11_land_196 : decode cX11_land 196 = .ok (.istore_n 3, 1) := by decide +kernel
theorem dX11_land_197 : decode cX11_land 197 = .ok (.iload_n 3, 1) := by decide +kernel
theorem dX11_land_198 : decode cX11_land 198 = .ok (.iconst 5, 1) := by decide +kernel
theorem dX11_land_199 : decode cX11_land 199 = .ok (.if_icmp .ge 25, 3) := by decide +kernel
theorem dX11_land_202 : decode cX11_land 202 = .ok (.aload_n 0, 1) := by decide +kernel
theorem dX11_land_203 : decode cX11_land 203 = .ok (.getfield 34, 3) := by decide +kernel
theorem dX11_land_206 : decode cX11_land 206 = .ok (.iload_n 2, 1) := by decide +kernel
theorem dX11_land_207 : decode cX11_land 207 = .ok (.aaload, 1) := by decide +kernel
theorem dX11_land_208 : decode cX11_land 208 = .ok (.iload_n 3, 1) := by decide +kernel
theorem dX11_land_209 : decode cX11_land 209 = .ok (.aload_n 0, 1) := by decide +kernel
theorem dX11_land_210 : decode cX11_land 210 = .ok (.getfield 31, 3) := by decide +kernel
theorem dX11_land_213 : decode cX11_land 213 = .ok (.iload_n 2, 1) := by decide +kernel
theorem dX11_land_214 : decode cX11_land 214 = .ok (.aaload, 1) := by decide +kernel
theorem dX11_land_215 : decode cX11_land 215 = .ok (.iload_n 3, 1) := by decide +kernel
theorem dX11_land_216 : decode cX11_land 216 = .ok (.iaload, 1) := by decide +kernel
theorem dX11_land_217 : decode cX11_land 217 = .ok (.iastore, 1) := by decide +kernel
theorem dX11_land_218 : decode cX11_land 218 = .ok (.iinc 3 1, 3) := by decide +kernel
theorem dX11_land_221 : decode cX11_land 221 = .ok (.goto (-24), 3) := by decide +kernel
theorem dX11_land_224 : decode cX11_land 224 = .ok (.iinc 2 1, 3) := by decide +kernel
theorem dX11_land_227 : decode cX11_land 227 = .ok (.goto (-42), 3) := by decide +kernel
theorem dX11_land_230 : decode cX11_land 230 = .ok (.iconst 0, 1) := by decide +kernel
theorem dX11_land_231 : decode cX11_land 231 = .ok (.istore_n 2, 1) := by decide +kernel
theorem dX11_land_232 : decode cX11_land 232 = .ok (.iload_n 2, 1) := by decide +kernel
theorem dX11_land_233 : decode cX11_land 233 = .ok (.aload_n 0, 1) := by decide +kernel
theorem dX11_land_234 : decode cX11_land 234 = .ok (.getfield 20, 3) := by decide +kernel
theorem dX11_land_237 : decode cX11_land 237 = .ok (.iconst 2, 1) := by decide +kernel
theorem dX11_land_238 : decode cX11_land 238 = .ok (.iaload, 1) := by decide +kernel
theorem dX11_land_239 : decode cX11_land 239 = .ok (.if_icmp .ge 38, 3) := by decide +kernel
theorem dX11_land_242 : decode cX11_land 242 = .ok (.iconst 0, 1) := by decide +kernel
theorem dX11_land_243 : decode cX11_land 243 = .ok (.istore_n 3, 1) := by decide +kernel
theorem dX11_land_244 : decode cX11_land 244 = .ok (.iload_n 3, 1) := by decide +kernel
theorem dX11_land_245 : decode cX11_land 245 = .ok (.iconst 5, 1) := by decide +kernel
theorem dX11_land_246 : decode cX11_land 246 = .ok (.if_icmp .ge 25, 3) := by decide +kernel
theorem dX11_land_249 : decode cX11_land 249 = .ok (.aload_n 0, 1) := by decide +kernel
theorem dX11_land_250 : decode cX11_land 250 = .ok (.getfield 40, 3) := by decide +kernel
theorem dX11_land_253 : decode cX11_land 253 = .ok (.iload_n 2, 1) := by decide +kernel
theorem dX11_land_254 : decode cX11_land 254 = .ok (.aaload, 1) := by decide +kernel
theorem dX11_land_255 : decode cX11_land 255 = .ok (.iload_n 3, 1) := by decide +kernel
theorem dX11_land_256 : decode cX11_land 256 = .ok (.aload_n 0, 1) := by decide +kernel
theorem dX11_land_257 : decode cX11_land 257 = .ok (.getfield 37, 3) := by decide +kernel
theorem dX11_land_260 : decode cX11_land 260 = .ok (.iload_n 2, 1) := by decide +kernel
theorem dX11_land_261 : decode cX11_land 261 = .ok (.aaload, 1) := by decide +kernel
theorem dX11_land_262 : decode cX11_land 262 = .ok (.iload_n 3, 1) := by decide +kernel
theorem dX11_land_263 : decode cX11_land 263 = .ok (.iaload, 1) := by decide +kernel
theorem dX11_land_264 : decode cX11_land 264 = .ok (.iastore, 1) := by decide +kernel
theorem dX11_land_265 : decode cX11_land 265 = .ok (.iinc 3 1, 3) := by decide +kernel
theorem dX11_land_268 : decode cX11_land 268 = .ok (.goto (-24), 3) := by decide +kernel
theorem dX11_land_271 : decode cX11_land 271 = .ok (.iinc 2 1, 3) := by decide +kernel
theorem dX11_land_274 : decode cX11_land 274 = .ok (.goto (-42), 3) := by decide +kernel
theorem dX11_land_277 : decode cX11_land 277 = .ok (.iconst 0, 1) := by decide +kernel
theorem dX11_land_278 : decode cX11_land 278 = .ok (.istore_n 2, 1) := by decide +kernel
theorem dX11_land_279 : decode cX11_land 279 = .ok (.iload_n 2, 1) := by decide +kernel
theorem dX11_land_280 : decode cX11_land 280 = .ok (.aload_n 0, 1) := by decide +kernel
theorem dX11_land_281 : decode cX11_land 281 = .ok (.getfield 20, 3) := by decide +kernel
theorem dX11_land_284 : decode cX11_land 284 = .ok (.iconst 3, 1) := by decide +kernel
theorem dX11_land_285 : decode cX11_land 285 = .ok (.iaload, 1) := by decide +kernel
theorem dX11_land_286 : decode cX11_land 286 = .ok (.if_icmp .ge 39, 3) := by decide +kernel
theorem dX11_land_289 : decode cX11_land 289 = .ok (.iconst 0, 1) := by decide +kernel
theorem dX11_land_290 : decode cX11_land 290 = .ok (.istore_n 3, 1) := by decide +kernel
theorem dX11_land_291 : decode cX11_land 291 = .ok (.iload_n 3, 1) := by decide +kernel
theorem dX11_land_292 : decode cX11_land 292 = .ok (.bipush 6, 2) := by decide +kernel
theorem dX11_land_294 : decode cX11_land 294 = .ok (.if_icmp .ge 25, 3) := by decide +kernel
theorem dX11_land_297 : decode cX11_land 297 = .ok (.aload_n 0, 1) := by decide +kernel
theorem dX11_land_298 : decode cX11_land 298 = .ok (.getfield 46, 3) := by decide +kernel
theorem dX11_land_301 : decode cX11_land 301 = .ok (.iload_n 2, 1) := by decide +kernel
theorem dX11_land_302 : decode cX11_land 302 = .ok (.aaload, 1) := by decide +kernel
theorem dX11_land_303 : decode cX11_land 303 = .ok (.iload_n 3, 1) := by decide +kernel
theorem dX11_land_304 : decode cX11_land 304 = .ok (.aload_n 0, 1) := by decide +kernel
theorem dX11_land_305 : decode cX11_land 305 = .ok (.getfield 43, 3) := by decide +kernel
theorem dX11_land_308 : decode cX11_land 308 = .ok (.iload_n 2, 1) := by decide +kernel
theorem dX11_land_309 : decode cX11_land 309 = .ok (.aaload, 1) := by decide +kernel
theorem dX11_land_310 : decode cX11_land 310 = .ok (.iload_n 3, 1) := by decide +kernel
theorem dX11_land_311 : decode cX11_land 311 = .ok (.iaload, 1) := by decide +kernel
theorem dX11_land_312 : decode cX11_land 312 = .ok (.iastore, 1) := by decide +kernel
theorem dX11_land_313 : decode cX11_land 313 = .ok (.iinc 3 1, 3) := by decide +kernel
theorem dX11_land_316 : decode cX11_land 316 = .ok (.goto (-25), 3) := by decide +kernel
theorem dX11_land_319 : decode cX11_land 319 = .ok (.iinc 2 1, 3) := by decide +kernel
theorem dX11_land_322 : decode cX11_land 322 = .ok (.goto (-43), 3) := by decide +kernel
theorem dX11_land_325 : decode cX11_land 325 = .ok (.iconst 0, 1) := by decide +kernel
theorem dX11_land_326 : decode cX11_land 326 = .ok (.istore_n 2, 1) := by decide +kernel
theorem dX11_land_327 : decode cX11_land 327 = .ok (.iload_n 2, 1) := by decide +kernel
theorem dX11_land_328 : decode cX11_land 328 = .ok (.aload_n 0, 1) := by decide +kernel
theorem dX11_land_329 : decode cX11_land 329 = .ok (.getfield 20, 3) := by decide +kernel
theorem dX11_land_332 : decode cX11_land 332 = .ok (.iconst 4, 1) := by decide +kernel
theorem dX11_land_333 : decode cX11_land 333 = .ok (.iaload, 1) := by decide +kernel
theorem dX11_land_334 : decode cX11_land 334 = .ok (.if_icmp .ge 21, 3) := by decide +kernel
theorem dX11_land_337 : decode cX11_land 337 = .ok (.aload_n 0, 1) := by decide +kernel
theorem dX11_land_338 : decode cX11_land 338 = .ok (.getfield 26, 3) := by decide +kernel
theorem dX11_land_341 : decode cX11_land 341 = .ok (.iload_n 2, 1) := by decide +kernel
theorem dX11_land_342 : decode cX11_land 342 = .ok (.aload_n 0, 1) := by decide +kernel
theorem dX11_land_343 : decode cX11_land 343 = .ok (.getfield 23, 3) := by decide +kernel
theorem dX11_land_346 : decode cX11_land 346 = .ok (.iload_n 2, 1) := by decide +kernel
theorem dX11_land_347 : decode cX11_land 347 = .ok (.iaload, 1) := by decide +kernel
theorem dX11_land_348 : decode cX11_land 348 = .ok (.iastore, 1) := by decide +kernel
theorem dX11_land_349 : decode cX11_land 349 = .ok (.iinc 2 1, 3) := by decide +kernel
theorem dX11_land_352 : decode cX11_land 352 = .ok (.goto (-25), 3) := by decide +kernel
theorem dX11_land_355 : decode cX11_land 355 = .ok (.aload_n 0, 1) := by decide +kernel
theorem dX11_land_356 : decode cX11_land 356 = .ok (.iconst 0, 1) := by decide +kernel
theorem dX11_land_357 : decode cX11_land 357 = .ok (.putfield 188, 3) := by decide +kernel
theorem dX11_land_360 : decode cX11_land 360 = .ok (.iconst 0, 1) := by decide +kernel
theorem dX11_land_361 : decode cX11_land 361 = .ok (.istore_n 2, 1) := by decide +kernel
theorem dX11_land_362 : decode cX11_land 362 = .ok (.iload_n 2, 1) := by decide +kernel
theorem dX11_land_363 : decode cX11_land 363 = .ok (.aload_n 0, 1) := by decide +kernel
theorem dX11_land_364 : decode cX11_land 364 = .ok (.getfield 20, 3) := by decide +kernel
theorem dX11_land_367 : decode cX11_land 367 = .ok (.iconst 1, 1) := by decide +kernel
theorem dX11_land_368 : decode cX11_land 368 = .ok (.iaload, 1) := by decide +kernel
theorem dX11_land_369 : decode cX11_land 369 = .ok (.if_icmp .ge 28, 3) := by decide +kernel
theorem dX11_land_372 : decode cX11_land 372 = .ok (.aload_n 0, 1) := by decide +kernel
theorem dX11_land_373 : decode cX11_land 373 = .ok (.getfield 49, 3) := by decide +kernel
theorem dX11_land_376 : decode cX11_land 376 = .ok (.iload_n 2, 1) := by decide +kernel
theorem dX11_land_377 : decode cX11_land 377 = .ok (.iconst 0, 1) := by decide +kernel
theorem dX11_land_378 : decode cX11_land 378 = .ok (.iastore, 1) := by decide +kernel
theorem dX11_land_379 : decode cX11_land 379 = .ok (.aload_n 0, 1) := by decide +kernel
theorem dX11_land_380 : decode cX11_land 380 = .ok (.getfield 52, 3) := by decide +kernel
theorem dX11_land_383 : decode cX11_land 383 = .ok (.iload_n 2, 1) := by decide +kernel
theorem dX11_land_384 : decode cX11_land 384 = .ok (.aload_n 0, 1) := by decide +kernel
theorem dX11_land_385 : decode cX11_land 385 = .ok (.getfield 20, 3) := by decide +kernel
theorem dX11_land_388 : decode cX11_land 388 = .ok (.iconst 5, 1) := by decide +kernel
theorem dX11_land_389 : decode cX11_land 389 = .ok (.iaload, 1) := by decide +kernel
theorem dX11_land_390 : decode cX11_land 390 = .ok (.iastore, 1) := by decide +kernel
theorem dX11_land_391 : decode cX11_land 391 = .ok (.iinc 2 1, 3) := by decide +kernel
theorem dX11_land_394 : decode cX11_land 394 = .ok (.goto (-32), 3) := by decide +kernel
theorem dX11_land_397 : decode cX11_land 397 = .ok (.aload_n 0, 1) := by decide +kernel
theorem dX11_land_398 : decode cX11_land 398 = .ok (.iconst 0, 1) := by decide +kernel
theorem dX11_land_399 : decode cX11_land 399 = .ok (.putfield 191, 3) := by decide +kernel
theorem dX11_land_402 : decode cX11_land 402 = .ok (.aload_n 0, 1) := by decide +kernel
theorem dX11_land_403 : decode cX11_land 403 = .ok (.iconst 0, 1) := by decide +kernel
theorem dX11_land_404 : decode cX11_land 404 = .ok (.putfield 194, 3) := by decide +kernel
theorem dX11_land_407 : decode cX11_land 407 = .ok (.aload_n 0, 1) := by decide +kernel
theorem dX11_land_408 : decode cX11_land 408 = .ok (.getfield 20, 3) := by decide +kernel
theorem dX11_land_411 : decode cX11_land 411 = .ok (.iconst 1, 1) := by decide +kernel
theorem dX11_land_412 : decode cX11_land 412 = .ok (.iaload, 1) := by decide +kernel
theorem dX11_land_413 : decode cX11_land 413 = .ok (.ireturn, 1) := by decide +kernel
theorem dX11_fault_0 : decode cX11_fault 0 = .ok (.aload_n 0, 1) := by decide +kernel
theorem dX11_fault_1 : decode cX11_fault 1 = .ok (.iconst 0, 1) := by decide +kernel
theorem dX11_fault_2 : decode cX11_fault 2 = .ok (.putfield 104, 3) := by decide +kernel
theorem dX11_fault_5 : decode cX11_fault 5 = .ok (.aload_n 0, 1) := by decide +kernel
theorem dX11_fault_6 : decode cX11_fault 6 = .ok (.getfield 9, 3) := by decide +kernel
theorem dX11_fault_9 : decode cX11_fault 9 = .ok (.ireturn, 1) := by decide +kernel
theorem dX11_told_0 : decode cX11_told 0 = .ok (.aload_n 0, 1) := by decide +kernel
theorem dX11_told_1 : decode cX11_told 1 = .ok (.iconst 0, 1) := by decide +kernel
theorem dX11_told_2 : decode cX11_told 2 = .ok (.putfield 104, 3) := by decide +kernel
theorem dX11_told_5 : decode cX11_told 5 = .ok (.aload_n 0, 1) := by decide +kernel
theorem dX11_told_6 : decode cX11_told 6 = .ok (.iload_n 1, 1) := by decide +kernel
theorem dX11_told_7 : decode cX11_told 7 = .ok (.iconst 0, 1) := by decide +kernel
theorem dX11_told_8 : decode cX11_told 8 = .ok (.bipush 6, 2) := by decide +kernel
theorem dX11_told_10 : decode cX11_told 10 = .ok (.invokestatic 138, 3) := by decide +kernel
theorem dX11_told_13 : decode cX11_told 13 = .ok (.ifCond .ne 7, 3) := by decide +kernel
theorem dX11_told_16 : decode cX11_told 16 = .ok (.iconst 1, 1) := by decide +kernel
theorem dX11_told_17 : decode cX11_told 17 = .ok (.goto 4, 3) := by decide +kernel
theorem dX11_told_20 : decode cX11_told 20 = .ok (.iconst 0, 1) := by decide +kernel
theorem dX11_told_21 : decode cX11_told 21 = .ok (.iconst 1, 1) := by decide +kernel
theorem dX11_told_22 : decode cX11_told 22 = .ok (.invokevirtual 181, 3) := by decide +kernel
theorem dX11_told_25 : decode cX11_told 25 = .ok (.ifCond .eq 5, 3) := by decide +kernel
theorem dX11_told_28 : decode cX11_told 28 = .ok (.iconst 0, 1) := by decide +kernel
theorem dX11_told_29 : decode cX11_told 29 = .ok (.ireturn, 1) := by decide +kernel
theorem dX11_told_30 : decode cX11_told 30 = .ok (.iload_n 1, 1) := by decide +kernel
theorem dX11_told_31 : decode cX11_told 31 = .ok (.bipush 6, 2) := by decide +kernel
theorem dX11_told_33 : decode cX11_told 33 = .ok (.if_icmp .ne 10, 3) := by decide +kernel
theorem dX11_told_36 : decode cX11_told 36 = .ok (.aload_n 0, 1) := by decide +kernel
theorem dX11_told_37 : decode cX11_told 37 = .ok (.getfield 188, 3) := by decide +kernel
theorem dX11_told_40 : decode cX11_told 40 = .ok (.goto 9, 3) := by decide +kernel
theorem dX11_told_43 : decode cX11_told 43 = .ok (.aload_n 0, 1) := by decide +kernel
theorem dX11_told_44 : decode cX11_told 44 = .ok (.getfield 20, 3) := by decide +kernel
theorem dX11_told_47 : decode cX11_told 47 = .ok (.iload_n 1, 1) := by decide +kernel
theorem dX11_told_48 : decode cX11_told 48 = .ok (.iaload, 1) := by decide +kernel
theorem dX11_told_49 : decode cX11_told 49 = .ok (.ireturn, 1) := by decide +kernel
theorem dX11_isRoad_0 : decode cX11_isRoad 0 = .ok (.iload_n 1, 1) := by decide +kernel
theorem dX11_isRoad_1 : decode cX11_isRoad 1 = .ok (.iconst 0, 1) := by decide +kernel
theorem dX11_isRoad_2 : decode cX11_isRoad 2 = .ok (.aload_n 0, 1) := by decide +kernel
theorem dX11_isRoad_3 : decode cX11_isRoad 3 = .ok (.getfield 20, 3) := by decide +kernel
theorem dX11_isRoad_6 : decode cX11_isRoad 6 = .ok (.iconst 1, 1) := by decide +kernel
theorem dX11_isRoad_7 : decode cX11_isRoad 7 = .ok (.iaload, 1) := by decide +kernel
theorem dX11_isRoad_8 : decode cX11_isRoad 8 = .ok (.iconst 1, 1) := by decide +kernel
theorem dX11_isRoad_9 : decode cX11_isRoad 9 = .ok (.isub, 1) := by decide +kernel
theorem dX11_isRoad_10 : decode cX11_isRoad 10 = .ok (.invokestatic 138, 3) := by decide +kernel
theorem dX11_isRoad_13 : decode cX11_isRoad 13 = .ok (.ireturn, 1) := by decide +kernel
theorem dX11_road_0 : decode cX11_road 0 = .ok (.aload_n 0, 1) := by decide +kernel
theorem dX11_road_1 : decode cX11_road 1 = .ok (.iconst 0, 1) := by decide +kernel
theorem dX11_road_2 : decode cX11_road 2 = .ok (.putfield 104, 3) := by decide +kernel
theorem dX11_road_5 : decode cX11_road 5 = .ok (.aload_n 0, 1) := by decide +kernel
theorem dX11_road_6 : decode cX11_road 6 = .ok (.aload_n 0, 1) := by decide +kernel
theorem dX11_road_7 : decode cX11_road 7 = .ok (.iload_n 1, 1) := by decide +kernel
theorem dX11_road_8 : decode cX11_road 8 = .ok (.invokevirtual 197, 3) := by decide +kernel
theorem dX11_road_11 : decode cX11_road 11 = .ok (.ifCond .ne 7, 3) := by decide +kernel
theorem dX11_road_14 : decode cX11_road 14 = .ok (.iconst 1, 1) := by decide +kernel
theorem dX11_road_15 : decode cX11_road 15 = .ok (.goto 4, 3) := by decide +kernel
theorem dX11_road_18 : decode cX11_road 18 = .ok (.iconst 0, 1) := by decide +kernel
theorem dX11_road_19 : decode cX11_road 19 = .ok (.iconst 1, 1) := by decide +kernel
theorem dX11_road_20 : decode cX11_road 20 = .ok (.invokevirtual 181, 3) := by decide +kernel
theorem dX11_road_23 : decode cX11_road 23 = .ok (.ifCond .ne 26, 3) := by decide +kernel
theorem dX11_road_26 : decode cX11_road 26 = .ok (.aload_n 0, 1) := by decide +kernel
theorem dX11_road_27 : decode cX11_road 27 = .ok (.iload_n 2, 1) := by decide +kernel
theorem dX11_road_28 : decode cX11_road 28 = .ok (.iconst 0, 1) := by decide +kernel
theorem dX11_road_29 : decode cX11_road 29 = .ok (.bipush 7, 2) := by decide +kernel
theorem dX11_road_31 : decode cX11_road 31 = .ok (.invokestatic 138, 3) := by decide +kernel
theorem dX11_road_34 : decode cX11_road 34 = .ok (.ifCond .ne 7, 3) := by decide +kernel
theorem dX11_road_37 : decode cX11_road 37 = .ok (.iconst 1, 1) := by decide +kernel
theorem dX11_road_38 : decode cX11_road 38 = .ok (.goto 4, 3) := by decide +kernel
theorem dX11_road_41 : decode cX11_road 41 = .ok (.iconst 0, 1) := by decide +kernel
theorem dX11_road_42 : decode cX11_road 42 = .ok (.iconst 2, 1) := by decide +kernel
theorem dX11_road_43 : decode cX11_road 43 = .ok (.invokevirtual 181, 3) := by decide +kernel
theorem dX11_road_46 : decode cX11_road 46 = .ok (.ifCond .eq 5, 3) := by decide +kernel
theorem dX11_road_49 : decode cX11_road 49 = .ok (.iconst 0, 1) := by decide +kernel
theorem dX11_road_50 : decode cX11_road 50 = .ok (.ireturn, 1) := by decide +kernel
theorem dX11_road_51 : decode cX11_road 51 = .ok (.iload_n 2, 1) := by decide +kernel
theorem dX11_road_52 : decode cX11_road 52 = .ok (.iconst 5, 1) := by decide +kernel
theorem dX11_road_53 : decode cX11_road 53 = .ok (.if_icmp .ge 12, 3) := by decide +kernel
theorem dX11_road_56 : decode cX11_road 56 = .ok (.aload_n 0, 1) := by decide +kernel
theorem dX11_road_57 : decode cX11_road 57 = .ok (.getfield 34, 3) := by decide +kernel
theorem dX11_road_60 : decode cX11_road 60 = .ok (.iload_n 1, 1) := by decide +kernel
theorem dX11_road_61 : decode cX11_road 61 = .ok (.aaload, 1) := by decide +kernel
theorem dX11_road_62 : decode cX11_road 62 = .ok (.iload_n 2, 1) := by decide +kernel
theorem dX11_road_63 : decode cX11_road 63 = .ok (.iaload, 1) := by decide +kernel
theorem dX11_road_64 : decode cX11_road 64 = .ok (.ireturn, 1) := by decide +kernel
theorem dX11_road_65 : decode cX11_road 65 = .ok (.iload_n 2, 1) := by decide +kernel
theorem dX11_road_66 : decode cX11_road 66 = .ok (.iconst 5, 1) := by decide +kernel
theorem dX11_road_67 : decode cX11_road 67 = .ok (.if_icmp .ne 12, 3) := by decide +kernel
theorem dX11_road_70 : decode cX11_road 70 = .ok (.aload_n 0, 1) := by decide +kernel
theorem dX11_road_71 : decode cX11_road 71 = .ok (.getfield 49, 3) := by decide +kernel
theorem dX11_road_74 : decode cX11_road 74 = .ok (.iload_n 1, 1) := by decide +kernel
theorem dX11_road_75 : decode cX11_road 75 = .ok (.iaload, 1) := by decide +kernel
theorem dX11_road_76 : decode cX11_road 76 = .ok (.goto 63, 3) := by decide +kernel
theorem dX11_road_79 : decode cX11_road 79 = .ok (.iload_n 2, 1) := by decide +kernel
theorem dX11_road_80 : decode cX11_road 80 = .ok (.bipush 6, 2) := by decide +kernel
theorem dX11_road_82 : decode cX11_road 82 = .ok (.if_icmp .ne 12, 3) := by decide +kernel
theorem dX11_road_85 : decode cX11_road 85 = .ok (.aload_n 0, 1) := by decide +kernel
theorem dX11_road_86 : decode cX11_road 86 = .ok (.getfield 52, 3) := by decide +kernel
theorem dX11_road_89 : decode cX11_road 89 = .ok (.iload_n 1, 1) := by decide +kernel
theorem dX11_road_90 : decode cX11_road 90 = .ok (.iaload, 1) := by decide +kernel
theorem dX11_road_91 : decode cX11_road 91 = .ok (.goto 48, 3) := by decide +kernel
theorem dX11_road_94 : decode cX11_road 94 = .ok (.aload_n 0, 1) := by decide +kernel
theorem dX11_road_95 : decode cX11_road 95 = .ok (.getfield 49, 3) := by decide +kernel
theorem dX11_road_98 : decode cX11_road 98 = .ok (.iload_n 1, 1) := by decide +kernel
theorem dX11_road_99 : decode cX11_road 99 = .ok (.iaload, 1) := by decide +kernel
theorem dX11_road_100 : decode cX11_road 100 = .ok (.aload_n 0, 1) := by decide +kernel
theorem dX11_road_101 : decode cX11_road 101 = .ok (.getfield 34, 3) := by decide +kernel
theorem dX11_road_104 : decode cX11_road 104 = .ok (.iload_n 1, 1) := by decide +kernel
theorem dX11_road_105 : decode cX11_road 105 = .ok (.aaload, 1) := by decide +kernel
theorem dX11_road_106 : decode cX11_road 106 = .ok (.iconst 4, 1) := by decide +kernel
theorem dX11_road_107 : decode cX11_road 107 = .ok (.iaload, 1) := by decide +kernel
theorem dX11_road_108 : decode cX11_road 108 = .ok (.if_icmp .le 7, 3) := by decide +kernel
theorem dX11_road_111 : decode cX11_road 111 = .ok (.iconst (-1), 1) := by decide +kernel
theorem dX11_road_112 : decode cX11_road 112 = .ok (.goto 27, 3) := by decide +kernel
theorem dX11_road_115 : decode cX11_road 115 = .ok (.aload_n 0, 1) := by decide +kernel
theorem dX11_road_116 : decode cX11_road 116 = .ok (.getfield 34, 3) := by decide +kernel
theorem dX11_road_119 : decode cX11_road 119 = .ok (.iload_n 1, 1) := by decide +kernel
theorem dX11_road_120 : decode cX11_road 120 = .ok (.aaload, 1) := by decide +kernel
theorem dX11_road_121 : decode cX11_road 121 = .ok (.iconst 2, 1) := by decide +kernel
theorem dX11_road_122 : decode cX11_road 122 = .ok (.iaload, 1) := by decide +kernel
theorem dX11_road_123 : decode cX11_road 123 = .ok (.aload_n 0, 1) := by decide +kernel
theorem dX11_road_124 : decode cX11_road 124 = .ok (.getfield 34, 3) := by decide +kernel
theorem dX11_road_127 : decode cX11_road 127 = .ok (.iload_n 1, 1) := by decide +kernel
theorem dX11_road_128 : decode cX11_road 128 = .ok (.aaload, 1) := by decide +kernel
theorem dX11_road_129 : decode cX11_road 129 = .ok (.iconst 3, 1) := by decide +kernel
theorem dX11_road_130 : decode cX11_road 130 = .ok (.iaload, 1) := by decide +kernel
theorem dX11_road_131 : decode cX11_road 131 = .ok (.aload_n 0, 1) := by decide +kernel
theorem dX11_road_132 : decode cX11_road 132 = .ok (.getfield 49, 3) := by decide +kernel
theorem dX11_road_135 : decode cX11_road 135 = .ok (.iload_n 1, 1) := by decide +kernel
theorem dX11_road_136 : decode cX11_road 136 = .ok (.iaload, 1) := by decide +kernel
theorem dX11_road_137 : decode cX11_road 137 = .ok (.imul, 1) := by decide +kernel
theorem dX11_road_138 : decode cX11_road 138 = .ok (.iadd, 1) := by decide +kernel
theorem dX11_road_139 : decode cX11_road 139 = .ok (.ireturn, 1) := by decide +kernel
theorem dX11_isGoing_0 : decode cX11_isGoing 0 = .ok (.iload_n 1, 1) := by decide +kernel
theorem dX11_isGoing_1 : decode cX11_isGoing 1 = .ok (.iconst 0, 1) := by decide +kernel
theorem dX11_isGoing_2 : decode cX11_isGoing 2 = .ok (.aload_n 0, 1) := by decide +kernel
theorem dX11_isGoing_3 : decode cX11_isGoing 3 = .ok (.getfield 20, 3) := by decide +kernel
theorem dX11_isGoing_6 : decode cX11_isGoing 6 = .ok (.iconst 3, 1) := by decide +kernel
theorem dX11_isGoing_7 : decode cX11_isGoing 7 = .ok (.iaload, 1) := by decide +kernel
theorem dX11_isGoing_8 : decode cX11_isGoing 8 = .ok (.iconst 1, 1) := by decide +kernel
theorem dX11_isGoing_9 : decode cX11_isGoing 9 = .ok (.isub, 1) := by decide +kernel
theorem dX11_isGoing_10 : decode cX11_isGoing 10 = .ok (.invokestatic 138, 3) := by decide +kernel
theorem dX11_isGoing_13 : decode cX11_isGoing 13 = .ok (.ireturn, 1) := by decide +kernel
theorem dX11_going_0 : decode cX11_going 0 = .ok (.aload_n 0, 1) := by decide +kernel
theorem dX11_going_1 : decode cX11_going 1 = .ok (.iconst 0, 1) := by decide +kernel
theorem dX11_going_2 : decode cX11_going 2 = .ok (.putfield 104, 3) := by decide +kernel
theorem dX11_going_5 : decode cX11_going 5 = .ok (.aload_n 0, 1) := by decide +kernel
theorem dX11_going_6 : decode cX11_going 6 = .ok (.aload_n 0, 1) := by decide +kernel
theorem dX11_going_7 : decode cX11_going 7 = .ok (.iload_n 1, 1) := by decide +kernel
theorem dX11_going_8 : decode cX11_going 8 = .ok (.invokevirtual 200, 3) := by decide +kernel
theorem dX11_going_11 : decode cX11_going 11 = .ok (.ifCond .ne 7, 3) := by decide +kernel
theorem dX11_going_14 : decode cX11_going 14 = .ok (.iconst 1, 1) := by decide +kernel
theorem dX11_going_15 : decode cX11_going 15 = .ok (.goto 4, 3) := by decide +kernel
theorem dX11_going_18 : decode cX11_going 18 = .ok (.iconst 0, 1) := by decide +kernel
theorem dX11_going_19 : decode cX11_going 19 = .ok (.iconst 1, 1) := by decide +kernel
theorem dX11_going_20 : decode cX11_going 20 = .ok (.invokevirtual 181, 3) := by decide +kernel
theorem dX11_going_23 : decode cX11_going 23 = .ok (.ifCond .ne 25, 3) := by decide +kernel
theorem dX11_going_26 : decode cX11_going 26 = .ok (.aload_n 0, 1) := by decide +kernel
theorem dX11_going_27 : decode cX11_going 27 = .ok (.iload_n 2, 1) := by decide +kernel
theorem dX11_going_28 : decode cX11_going 28 = .ok (.iconst 0, 1) := by decide +kernel
theorem dX11_going_29 : decode cX11_going 29 = .ok (.iconst 5, 1) := by decide +kernel
theorem dX11_going_30 : decode cX11_going 30 = .ok (.invokestatic 138, 3) := by decide +kernel
theorem dX11_going_33 : decode cX11_going 33 = .ok (.ifCond .ne 7, 3) := by decide +kernel
theorem dX11_going_36 : decode cX11_going 36 = .ok (.iconst 1, 1) := by decide +kernel
theorem dX11_going_37 : decode cX11_going 37 = .ok (.goto 4, 3) := by decide +kernel
theorem dX11_going_40 : decode cX11_going 40 = .ok (.iconst 0, 1) := by decide +kernel
theorem dX11_going_41 : decode cX11_going 41 = .ok (.iconst 2, 1) := by decide +kernel
theorem dX11_going_42 : decode cX11_going 42 = .ok (.invokevirtual 181, 3) := by decide +kernel
theorem dX11_going_45 : decode cX11_going 45 = .ok (.ifCond .eq 5, 3) := by decide +kernel
theorem dX11_going_48 : decode cX11_going 48 = .ok (.iconst 0, 1) := by decide +kernel
theorem dX11_going_49 : decode cX11_going 49 = .ok (.ireturn, 1) := by decide +kernel
theorem dX11_going_50 : decode cX11_going 50 = .ok (.aload_n 0, 1) := by decide +kernel
theorem dX11_going_51 : decode cX11_going 51 = .ok (.getfield 46, 3) := by decide +kernel
theorem dX11_going_54 : decode cX11_going 54 = .ok (.iload_n 1, 1) := by decide +kernel
theorem dX11_going_55 : decode cX11_going 55 = .ok (.aaload, 1) := by decide +kernel
theorem dX11_going_56 : decode cX11_going 56 = .ok (.iload_n 2, 1) := by decide +kernel
theorem dX11_going_57 : decode cX11_going 57 = .ok (.iaload, 1) := by decide +kernel
theorem dX11_going_58 : decode cX11_going 58 = .ok (.ireturn, 1) := by decide +kernel
theorem dX11_minutesOf_0 : decode cX11_minutesOf 0 = .ok (.aload_n 0, 1) := by decide +kernel
theorem dX11_minutesOf_1 : decode cX11_minutesOf 1 = .ok (.getfield 34, 3) := by decide +kernel
theorem dX11_minutesOf_4 : decode cX11_minutesOf 4 = .ok (.iload_n 1, 1) := by decide +kernel
theorem dX11_minutesOf_5 : decode cX11_minutesOf 5 = .ok (.aaload, 1) := by decide +kernel
theorem dX11_minutesOf_6 : decode cX11_minutesOf 6 = .ok (.iconst 2, 1) := by decide +kernel
theorem dX11_minutesOf_7 : decode cX11_minutesOf 7 = .ok (.iaload, 1) := by decide +kernel
theorem dX11_minutesOf_8 : decode cX11_minutesOf 8 = .ok (.aload_n 0, 1) := by decide +kernel
theorem dX11_minutesOf_9 : decode cX11_minutesOf 9 = .ok (.getfield 34, 3) := by decide +kernel
theorem dX11_minutesOf_12 : decode cX11_minutesOf 12 = .ok (.iload_n 1, 1) := by decide +kernel
theorem dX11_minutesOf_13 : decode cX11_minutesOf 13 = .ok (.aaload, 1) := by decide +kernel
theorem dX11_minutesOf_14 : decode cX11_minutesOf 14 = .ok (.iconst 3, 1) := by decide +kernel
theorem dX11_minutesOf_15 : decode cX11_minutesOf 15 = .ok (.iaload, 1) := by decide +kernel
theorem dX11_minutesOf_16 : decode cX11_minutesOf 16 = .ok (.aload_n 0, 1) := by decide +kernel
theorem dX11_minutesOf_17 : decode cX11_minutesOf 17 = .ok (.getfield 61, 3) := by decide +kernel
theorem dX11_minutesOf_20 : decode cX11_minutesOf 20 = .ok (.iload_n 1, 1) := by decide +kernel
theorem dX11_minutesOf_21 : decode cX11_minutesOf 21 = .ok (.iaload, 1) := by decide +kernel
theorem dX11_minutesOf_22 : decode cX11_minutesOf 22 = .ok (.imul, 1) := by decide +kernel
theorem dX11_minutesOf_23 : decode cX11_minutesOf 23 = .ok (.iadd, 1) := by decide +kernel
theorem dX11_minutesOf_24 : decode cX11_minutesOf 24 = .ok (.ireturn, 1) := by decide +kernel
theorem dX11_isOpen_0 : decode cX11_isOpen 0 = .ok (.iload_n 2, 1) := by decide +kernel
theorem dX11_isOpen_1 : decode cX11_isOpen 1 = .ok (.iload_n 1, 1) := by decide +kernel
theorem dX11_isOpen_2 : decode cX11_isOpen 2 = .ok (.ishr, 1) := by decide +kernel
theorem dX11_isOpen_3 : decode cX11_isOpen 3 = .ok (.iconst 1, 1) := by decide +kernel
theorem dX11_isOpen_4 : decode cX11_isOpen 4 = .ok (.iand, 1) := by decide +kernel
theorem dX11_isOpen_5 : decode cX11_isOpen 5 = .ok (.ifCond .ne 24, 3) := by decide +kernel
theorem dX11_isOpen_8 : decode cX11_isOpen 8 = .ok (.aload_n 0, 1) := by decide +kernel
theorem dX11_isOpen_9 : decode cX11_isOpen 9 = .ok (.getfield 61, 3) := by decide +kernel
theorem dX11_isOpen_12 : decode cX11_isOpen 12 = .ok (.iload_n 1, 1) := by decide +kernel
theorem dX11_isOpen_13 : decode cX11_isOpen 13 = .ok (.iaload, 1) := by decide +kernel
theorem dX11_isOpen_14 : decode cX11_isOpen 14 = .ok (.aload_n 0, 1) := by decide +kernel
theorem dX11_isOpen_15 : decode cX11_isOpen 15 = .ok (.getfield 34, 3) := by decide +kernel
theorem dX11_isOpen_18 : decode cX11_isOpen 18 = .ok (.iload_n 1, 1) := by decide +kernel
theorem dX11_isOpen_19 : decode cX11_isOpen 19 = .ok (.aaload, 1) := by decide +kernel
theorem dX11_isOpen_20 : decode cX11_isOpen 20 = .ok (.iconst 4, 1) := by decide +kernel
theorem dX11_isOpen_21 : decode cX11_isOpen 21 = .ok (.iaload, 1) := by decide +kernel
theorem dX11_isOpen_22 : decode cX11_isOpen 22 = .ok (.if_icmp .gt 7, 3) := by decide +kernel
theorem dX11_isOpen_25 : decode cX11_isOpen 25 = .ok (.iconst 1, 1) := by decide +kernel
theorem dX11_isOpen_26 : decode cX11_isOpen 26 = .ok (.goto 4, 3) := by decide +kernel
theorem dX11_isOpen_29 : decode cX11_isOpen 29 = .ok (.iconst 0, 1) := by decide +kernel
theorem dX11_isOpen_30 : decode cX11_isOpen 30 = .ok (.ireturn, 1) := by decide +kernel
theorem dX11_farEnd_0 : decode cX11_farEnd 0 = .ok (.aload_n 0, 1) := by decide +kernel
theorem dX11_farEnd_1 : decode cX11_farEnd 1 = .ok (.getfield 34, 3) := by decide +kernel
theorem dX11_farEnd_4 : decode cX11_farEnd 4 = .ok (.iload_n 1, 1) := by decide +kernel
theorem dX11_farEnd_5 : decode cX11_farEnd 5 = .ok (.aaload, 1) := by decide +kernel
theorem dX11_farEnd_6 : decode cX11_farEnd 6 = .ok (.iconst 0, 1) := by decide +kernel
theorem dX11_farEnd_7 : decode cX11_farEnd 7 = .ok (.iaload, 1) := by decide +kernel
theorem dX11_farEnd_8 : decode cX11_farEnd 8 = .ok (.iload_n 2, 1) := by decide +kernel
theorem dX11_farEnd_9 : decode cX11_farEnd 9 = .ok (.if_icmp .ne 14, 3) := by decide +kernel
theorem dX11_farEnd_12 : decode cX11_farEnd 12 = .ok (.aload_n 0, 1) := by decide +kernel
theorem dX11_farEnd_13 : decode cX11_farEnd 13 = .ok (.getfield 34, 3) := by decide +kernel
theorem dX11_farEnd_16 : decode cX11_farEnd 16 = .ok (.iload_n 1, 1) := by decide +kernel
theorem dX11_farEnd_17 : decode cX11_farEnd 17 = .ok (.aaload, 1) := by decide +kernel
theorem dX11_farEnd_18 : decode cX11_farEnd 18 = .ok (.iconst 1, 1) := by decide +kernel
theorem dX11_farEnd_19 : decode cX11_farEnd 19 = .ok (.iaload, 1) := by decide +kernel
theorem dX11_farEnd_20 : decode cX11_farEnd 20 = .ok (.goto 27, 3) := by decide +kernel
theorem dX11_farEnd_23 : decode cX11_farEnd 23 = .ok (.aload_n 0, 1) := by decide +kernel
theorem dX11_farEnd_24 : decode cX11_farEnd 24 = .ok (.getfield 34, 3) := by decide +kernel
theorem dX11_farEnd_27 : decode cX11_farEnd 27 = .ok (.iload_n 1, 1) := by decide +kernel
theorem dX11_farEnd_28 : decode cX11_farEnd 28 = .ok (.aaload, 1) := by decide +kernel
theorem dX11_farEnd_29 : decode cX11_farEnd 29 = .ok (.iconst 1, 1) := by decide +kernel
theorem dX11_farEnd_30 : decode cX11_farEnd 30 = .ok (.iaload, 1) := by decide +kernel
theorem dX11_farEnd_31 : decode cX11_farEnd 31 = .ok (.iload_n 2, 1) := by decide +kernel
theorem dX11_farEnd_32 : decode cX11_farEnd 32 = .ok (.if_icmp .ne 14, 3) := by decide +kernel
theorem dX11_farEnd_35 : decode cX11_farEnd 35 = .ok (.aload_n 0, 1) := by decide +kernel
theorem dX11_farEnd_36 : decode cX11_farEnd 36 = .ok (.getfield 34, 3) := by decide +kernel
theorem dX11_farEnd_39 : decode cX11_farEnd 39 = .ok (.iload_n 1, 1) := by decide +kernel
theorem dX11_farEnd_40 : decode cX11_farEnd 40 = .ok (.aaload, 1) := by decide +kernel
theorem dX11_farEnd_41 : decode cX11_farEnd 41 = .ok (.iconst 0, 1) := by decide +kernel
theorem dX11_farEnd_42 : decode cX11_farEnd 42 = .ok (.iaload, 1) := by decide +kernel
theorem dX11_farEnd_43 : decode cX11_farEnd 43 = .ok (.goto 4, 3) := by decide +kernel
theorem dX11_farEnd_46 : decode cX11_farEnd 46 = .ok (.iconst (-1), 1) := by decide +kernel
theorem dX11_farEnd_47 : decode cX11_farEnd 47 = .ok (.ireturn, 1) := by decide +kernel
theorem dX11_findWay_0 : decode cX11_findWay 0 = .ok (.iconst 0, 1) := by decide +kernel
theorem dX11_findWay_1 : decode cX11_findWay 1 = .ok (.istore 4, 2) := by decide +kernel
theorem dX11_findWay_3 : decode cX11_findWay 3 = .ok (.iload 4, 2) := by decide +kernel
theorem dX11_findWay_5 : decode cX11_findWay 5 = .ok (.aload_n 0, 1) := by decide +kernel
theorem dX11_findWay_6 : decode cX11_findWay 6 = .ok (.getfield 20, 3) := by decide +kernel
theorem dX11_findWay_9 : decode cX11_findWay 9 = .ok (.iconst 0, 1) := by decide +kernel
theorem dX11_findWay_10 : decode cX11_findWay 10 = .ok (.iaload, 1) := by decide +kernel
theorem dX11_findWay_11 : decode cX11_findWay 11 = .ok (.if_icmp .ge 28, 3) := by decide +kernel
theorem dX11_findWay_14 : decode cX11_findWay 14 = .ok (.aload_n 0, 1) := by decide +kernel
theorem dX11_findWay_15 : decode cX11_findWay 15 = .ok (.getfield 82, 3) := by decide +kernel
theorem dX11_findWay_18 : decode cX11_findWay 18 = .ok (.iload 4, 2) := by decide +kernel
theorem dX11_findWay_20 : decode cX11_findWay 20 = .ok (.iload 4, 2) := by decide +kernel
theorem dX11_findWay_22 : decode cX11_findWay 22 = .ok (.iload_n 2, 1) := by decide +kernel
theorem dX11_findWay_23 : decode cX11_findWay 23 = .ok (.if_icmp .ne 7, 3) := by decide +kernel
theorem dX11_findWay_26 : decode cX11_findWay 26 = .ok (.iconst 0, 1) := by decide +kernel
theorem dX11_findWay_27 : decode cX11_findWay 27 = .ok (.goto 5, 3) := by decide +kernel
theorem dX11_findWay_30 : decode cX11_findWay 30 = .ok (.ldc 203, 2) := by decide +kernel
theorem dX11_findWay_32 : decode cX11_findWay 32 = .ok (.iastore, 1) := by decide +kernel
theorem dX11_findWay_33 : decode cX11_findWay 33 = .ok (.iinc 4 1, 3) := by decide +kernel
theorem dX11_findWay_36 : decode cX11_findWay 36 = .ok (.goto (-33), 3) := by decide +kernel
theorem dX11_findWay_39 : decode cX11_findWay 39 = .ok (.iconst 1, 1) := by decide +kernel
theorem dX11_findWay_40 : decode cX11_findWay 40 = .ok (.istore 4, 2) := by decide +kernel
theorem dX11_findWay_42 : decode cX11_findWay 42 = .ok (.iload 4, 2) := by decide +kernel
theorem dX11_findWay_44 : decode cX11_findWay 44 = .ok (.ifCond .eq 163, 3) := by decide +kernel
theorem dX11_findWay_47 : decode cX11_findWay 47 = .ok (.iconst 0, 1) := by decide +kernel
theorem dX11_findWay_48 : decode cX11_findWay 48 = .ok (.istore 4, 2) := by decide +kernel
theorem dX11_findWay_50 : decode cX11_findWay 50 = .ok (.iconst 0, 1) := by decide +kernel
theorem dX11_findWay_51 : decode cX11_findWay 51 = .ok (.istore 5, 2) := by decide +kernel
theorem dX11_findWay_53 : decode cX11_findWay 53 = .ok (.iload 5, 2) := by decide +kernel
theorem dX11_findWay_55 : decode cX11_findWay 55 = .ok (.aload_n 0, 1) := by decide +kernel
theorem dX11_findWay_56 : decode cX11_findWay 56 = .ok (.getfield 204, 3) := by decide +kernel
theorem dX11_findWay_59 : decode cX11_findWay 59 = .ok (.if_icmp .ge 145, 3) := by decide +kernel
theorem dX11_findWay_62 : decode cX11_findWay 62 = .ok (.aload_n 0, 1) := by decide +kernel
theorem dX11_findWay_63 : decode cX11_findWay 63 = .ok (.iload 5, 2) := by decide +kernel
theorem dX11_findWay_65 : decode cX11_findWay 65 = .ok (.iload_n 3, 1) := by decide +kernel
theorem dX11_findWay_66 : decode cX11_findWay 66 = .ok (.invokevirtual 207, 3) := by decide +kernel
theorem dX11_findWay_69 : decode cX11_findWay 69 = .ok (.ifCond .ne 6, 3) := by decide +kernel
theorem dX11_findWay_72 : decode cX11_findWay 72 = .ok (.goto 126, 3) := by decide +kernel
theorem dX11_findWay_75 : decode cX11_findWay 75 = .ok (.aload_n 0, 1) := by decide +kernel
theorem dX11_findWay_76 : decode cX11_findWay 76 = .ok (.getfield 34, 3) := by decide +kernel
theorem dX11_findWay_79 : decode cX11_findWay 79 = .ok (.iload 5, 2) := by decide +kernel
theorem dX11_findWay_81 : decode cX11_findWay 81 = .ok (.aaload, 1) := by decide +kernel
theorem dX11_findWay_82 : decode cX11_findWay 82 = .ok (.iconst 0, 1) := by decide +kernel
theorem dX11_findWay_83 : decode cX11_findWay 83 = .ok (.iaload, 1) := by decide +kernel
theorem dX11_findWay_84 : decode cX11_findWay 84 = .ok (.istore 6, 2) := by decide +kernel
theorem dX11_findWay_86 : decode cX11_findWay 86 = .ok (.aload_n 0, 1) := by decide +kernel
theorem dX11_findWay_87 : decode cX11_findWay 87 = .ok (.getfield 34, 3) := by decide +kernel
theorem dX11_findWay_90 : decode cX11_findWay 90 = .ok (.iload 5, 2) := by decide +kernel
theorem dX11_findWay_92 : decode cX11_findWay 92 = .ok (.aaload, 1) := by decide +kernel
theorem dX11_findWay_93 : decode cX11_findWay 93 = .ok (.iconst 1, 1) := by decide +kernel
theorem dX11_findWay_94 : decode cX11_findWay 94 = .ok (.iaload, 1) := by decide +kernel
theorem dX11_findWay_95 : decode cX11_findWay 95 = .ok (.istore 7, 2) := by decide +kernel
theorem dX11_findWay_97 : decode cX11_findWay 97 = .ok (.aload_n 0, 1) := by decide +kernel
theorem dX11_findWay_98 : decode cX11_findWay 98 = .ok (.iload 5, 2) := by decide +kernel
theorem dX11_findWay_100 : decode cX11_findWay 100 = .ok (.invokevirtual 211, 3) := by decide +kernel
theorem dX11_findWay_103 : decode cX11_findWay 103 = .ok (.aload_n 0, 1) := by decide +kernel
theorem dX11_findWay_104 : decode cX11_findWay 104 = .ok (.getfield 214, 3) := by decide +kernel
theorem dX11_findWay_107 : decode cX11_findWay 107 = .ok (.aload_n 0, 1) := by decide +kernel
theorem dX11_findWay_108 : decode cX11_findWay 108 = .ok (.getfield 61, 3) := by decide +kernel
theorem dX11_findWay_111 : decode cX11_findWay 111 = .ok (.iload 5, 2) := by decide +kernel
theorem dX11_findWay_113 : decode cX11_findWay 113 = .ok (.iaload, 1) := by decide +kernel
theorem dX11_findWay_114 : decode cX11_findWay 114 = .ok (.imul, 1) := by decide +kernel
theorem dX11_findWay_115 : decode cX11_findWay 115 = .ok (.iadd, 1) := by decide +kernel
theorem dX11_findWay_116 : decode cX11_findWay 116 = .ok (.istore 8, 2) := by decide +kernel
theorem dX11_findWay_118 : decode cX11_findWay 118 = .ok (.aload_n 0, 1) := by decide +kernel
theorem dX11_findWay_119 : decode cX11_findWay 119 = .ok (.getfield 82, 3) := by decide +kernel
theorem dX11_findWay_122 : decode cX11_findWay 122 = .ok (.iload 6, 2) := by decide +kernel
theorem dX11_findWay_124 : decode cX11_findWay 124 = .ok (.iaload, 1) := by decide +kernel
theorem dX11_findWay_125 : decode cX11_findWay 125 = .ok (.iload 8, 2) := by decide +kernel
theorem dX11_findWay_127 : decode cX11_findWay 127 = .ok (.iadd, 1) := by decide +kernel
theorem dX11_findWay_128 : decode cX11_findWay 128 = .ok (.aload_n 0, 1) := by decide +kernel
theorem dX11_findWay_129 : decode cX11_findWay 129 = .ok (.getfield 82, 3) := by decide +kernel
theorem dX11_findWay_132 : decode cX11_findWay 132 = .ok (.iload 7, 2) := by decide +kernel
theorem dX11_findWay_134 : decode cX11_findWay 134 = .ok (.iaload, 1) := by decide +kernel
theorem dX11_findWay_135 : decode cX11_findWay 135 = .ok (.if_icmp .ge 23, 3) := by decide +kernel
theorem dX11_findWay_138 : decode cX11_findWay 138 = .ok (.aload_n 0, 1) := by decide +kernel
theorem dX11_findWay_139 : decode cX11_findWay 139 = .ok (.getfield 82, 3) := by decide +kernel
theorem dX11_findWay_142 : decode cX11_findWay 142 = .ok (.iload 7, 2) := by decide +kernel
theorem dX11_findWay_144 : decode cX11_findWay 144 = .ok (.aload_n 0, 1) := by decide +kernel
theorem dX11_findWay_145 : decode cX11_findWay 145 = .ok (.getfield 82, 3) := by decide +kernel
theorem dX11_findWay_148 : decode cX11_findWay 148 = .ok (.iload 6, 2) := by decide +kernel
theorem dX11_findWay_150 : decode cX11_findWay 150 = .ok (.iaload, 1) := by decide +kernel
theorem dX11_findWay_151 : decode cX11_findWay 151 = .ok (.iload 8, 2) := by decide +kernel
theorem dX11_findWay_153 : decode cX11_findWay 153 = .ok (.iadd, 1) := by decide +kernel
theorem dX11_findWay_154 : decode cX11_findWay 154 = .ok (.iastore, 1) := by decide +kernel
theorem dX11_findWay_155 : decode cX11_findWay 155 = .ok (.iconst 1, 1) := by decide +kernel
theorem dX11_findWay_156 : decode cX11_findWay 156 = .ok (.istore 4, 2) := by decide +kernel
theorem dX11_findWay_158 : decode cX11_findWay 158 = .ok (.aload_n 0, 1) := by decide +kernel
theorem dX11_findWay_159 : decode cX11_findWay 159 = .ok (.getfield 82, 3) := by decide +kernel
theorem dX11_findWay_162 : decode cX11_findWay 162 = .ok (.iload 7, 2) := by decide +kernel
theorem dX11_findWay_164 : decode cX11_findWay 164 = .ok (.iaload, 1) := by decide +kernel
theorem dX11_findWay_165 : decode cX11_findWay 165 = .ok (.iload 8, 2) := by decide +kernel
theorem dX11_findWay_167 : decode cX11_findWay 167 = .ok (.iadd, 1) := by decide +kernel
theorem dX11_findWay_168 : decode cX11_findWay 168 = .ok (.aload_n 0, 1) := by decide +kernel
theorem dX11_findWay_169 : decode cX11_findWay 169 = .ok (.getfield 82, 3) := by decide +kernel
theorem dX11_findWay_172 : decode cX11_findWay 172 = .ok (.iload 6, 2) := by decide +kernel
theorem dX11_findWay_174 : decode cX11_findWay 174 = .ok (.iaload, 1) := by decide +kernel
theorem dX11_findWay_175 : decode cX11_findWay 175 = .ok (.if_icmp .ge 23, 3) := by decide +kernel
theorem dX11_findWay_178 : decode cX11_findWay 178 = .ok (.aload_n 0, 1) := by decide +kernel
theorem dX11_findWay_179 : decode cX11_findWay 179 = .ok (.getfield 82, 3) := by decide +kernel
theorem dX11_findWay_182 : decode cX11_findWay 182 = .ok (.iload 6, 2) := by decide +kernel
theorem dX11_findWay_184 : decode cX11_findWay 184 = .ok (.aload_n 0, 1) := by decide +kernel
theorem dX11_findWay_185 : decode cX11_findWay 185 = .ok (.getfield 82, 3) := by decide +kernel
theorem dX11_findWay_188 : decode cX11_findWay 188 = .ok (.iload 7, 2) := by decide +kernel
theorem dX11_findWay_190 : decode cX11_findWay 190 = .ok (.iaload, 1) := by decide +kernel
theorem dX11_findWay_191 : decode cX11_findWay 191 = .ok (.iload 8, 2) := by decide +kernel
theorem dX11_findWay_193 : decode cX11_findWay 193 = .ok (.iadd, 1) := by decide +kernel
theorem dX11_findWay_194 : decode cX11_findWay 194 = .ok (.iastore, 1) := by decide +kernel
theorem dX11_findWay_195 : decode cX11_findWay 195 = .ok (.iconst 1, 1) := by decide +kernel
theorem dX11_findWay_196 : decode cX11_findWay 196 = .ok (.istore 4, 2) := by decide +kernel
theorem dX11_findWay_198 : decode cX11_findWay 198 = .ok (.iinc 5 1, 3) := by decide +kernel
theorem dX11_findWay_201 : decode cX11_findWay 201 = .ok (.goto (-148), 3) := by decide +kernel
theorem dX11_findWay_204 : decode cX11_findWay 204 = .ok (.goto (-162), 3) := by decide +kernel
theorem dX11_findWay_207 : decode cX11_findWay 207 = .ok (.aload_n 0, 1) := by decide +kernel
theorem dX11_findWay_208 : decode cX11_findWay 208 = .ok (.iconst 0, 1) := by decide +kernel
theorem dX11_findWay_209 : decode cX11_findWay 209 = .ok (.putfield 217, 3) := by decide +kernel
theorem dX11_findWay_212 : decode cX11_findWay 212 = .ok (.aload_n 0, 1) := by decide +kernel
theorem dX11_findWay_213 : decode cX11_findWay 213 = .ok (.iconst 0, 1) := by decide +kernel
theorem dX11_findWay_214 : decode cX11_findWay 214 = .ok (.putfield 220, 3) := by decide +kernel
theorem dX11_findWay_217 : decode cX11_findWay 217 = .ok (.aload_n 0, 1) := by decide +kernel
theorem dX11_findWay_218 : decode cX11_findWay 218 = .ok (.getfield 82, 3) := by decide +kernel
theorem dX11_findWay_221 : decode cX11_findWay 221 = .ok (.iload_n 1, 1) := by decide +kernel
theorem dX11_findWay_222 : decode cX11_findWay 222 = .ok (.iaload, 1) := by decide +kernel
theorem dX11_findWay_223 : decode cX11_findWay 223 = .ok (.ldc 203, 2) := by decide +kernel
theorem dX11_findWay_225 : decode cX11_findWay 225 = .ok (.if_icmp .lt 5, 3) := by decide +kernel
theorem dX11_findWay_228 : decode cX11_findWay 228 = .ok (.iconst 0, 1) := by decide +kernel
theorem dX11_findWay_229 : decode cX11_findWay 229 = .ok (.ireturn, 1) := by decide +kernel
theorem dX11_findWay_230 : decode cX11_findWay 230 = .ok (.iload_n 1, 1) := by decide +kernel
theorem dX11_findWay_231 : decode cX11_findWay 231 = .ok (.istore 5, 2) := by decide +kernel
theorem dX11_findWay_233 : decode cX11_findWay 233 = .ok (.iload 5, 2) := by decide +kernel
theorem dX11_findWay_235 : decode cX11_findWay 235 = .ok (.iload_n 2, 1) := by decide +kernel
theorem dX11_findWay_236 : decode cX11_findWay 236 = .ok (.if_icmp .eq 135, 3) := by decide +kernel
theorem dX11_findWay_239 : decode cX11_findWay 239 = .ok (.iconst 0, 1) := by decide +kernel
theorem dX11_findWay_240 : decode cX11_findWay 240 = .ok (.istore 6, 2) := by decide +kernel
theorem dX11_findWay_242 : decode cX11_findWay 242 = .ok (.aload_n 0, 1) := by decide +kernel
theorem dX11_findWay_243 : decode cX11_findWay 243 = .ok (.iload 6, 2) := by decide +kernel
theorem dX11_findWay_245 : decode cX11_findWay 245 = .ok (.iload_n 3, 1) := by decide +kernel
theorem dX11_findWay_246 : decode cX11_findWay 246 = .ok (.invokevirtual 207, 3) := by decide +kernel
theorem dX11_findWay_249 : decode cX11_findWay 249 = .ok (.ifCond .eq 58, 3) := by decide +kernel
theorem dX11_findWay_252 : decode cX11_findWay 252 = .ok (.aload_n 0, 1) := by decide +kernel
theorem dX11_findWay_253 : decode cX11_findWay 253 = .ok (.iload 6, 2) := by decide +kernel
theorem dX11_findWay_255 : decode cX11_findWay 255 = .ok (.iload 5, 2) := by decide +kernel
theorem dX11_findWay_257 : decode cX11_findWay 257 = .ok (.invokevirtual 223, 3) := by decide +kernel
theorem dX11_findWay_260 : decode cX11_findWay 260 = .ok (.iconst (-1), 1) := by decide +kernel
theorem dX11_findWay_261 : decode cX11_findWay 261 = .ok (.if_icmp .eq 46, 3) := by decide +kernel
theorem dX11_findWay_264 : decode cX11_findWay 264 = .ok (.aload_n 0, 1) := by decide +kernel
theorem dX11_findWay_265 : decode cX11_findWay 265 = .ok (.getfield 82, 3) := by decide +kernel
theorem dX11_findWay_268 : decode cX11_findWay 268 = .ok (.aload_n 0, 1) := by decide +kernel
theorem dX11_findWay_269 : decode cX11_findWay 269 = .ok (.iload 6, 2) := by decide +kernel
theorem dX11_findWay_271 : decode cX11_findWay 271 = .ok (.iload 5, 2) := by decide +kernel
theorem dX11_findWay_273 : decode cX11_findWay 273 = .ok (.invokevirtual 223, 3) := by decide +kernel
theorem dX11_findWay_276 : decode cX11_findWay 276 = .ok (.iaload, 1) := by decide +kernel
theorem dX11_findWay_277 : decode cX11_findWay 277 = .ok (.aload_n 0, 1) := by decide +kernel
theorem dX11_findWay_278 : decode cX11_findWay 278 = .ok (.iload 6, 2) := by decide +kernel
theorem dX11_findWay_280 : decode cX11_findWay 280 = .ok (.invokevirtual 211, 3) := by decide +kernel
theorem dX11_findWay_283 : decode cX11_findWay 283 = .ok (.iadd, 1) := by decide +kernel
theorem dX11_findWay_284 : decode cX11_findWay 284 = .ok (.aload_n 0, 1) := by decide +kernel
theorem dX11_findWay_285 : decode cX11_findWay 285 = .ok (.getfield 214, 3) := by decide +kernel
theorem dX11_findWay_288 : decode cX11_findWay 288 = .ok (.aload_n 0, 1) := by decide +kernel
theorem dX11_findWay_289 : decode cX11_findWay 289 = .ok (.getfield 61, 3) := by decide +kernel
theorem dX11_findWay_292 : decode cX11_findWay 292 = .ok (.iload 6, 2) := by decide +kernel
theorem dX11_findWay_294 : decode cX11_findWay 294 = .ok (.iaload, 1) := by decide +kernel
theorem dX11_findWay_295 : decode cX11_findWay 295 = .ok (.imul, 1) := by decide +kernel
theorem dX11_findWay_296 : decode cX11_findWay 296 = .ok (.iadd, 1) := by decide +kernel
theorem dX11_findWay_297 : decode cX11_findWay 297 = .ok (.aload_n 0, 1) := by decide +kernel
theorem dX11_findWay_298 : decode cX11_findWay 298 = .ok (.getfield 82, 3) := by decide +kernel
theorem dX11_findWay_301 : decode cX11_findWay 301 = .ok (.iload 5, 2) := by decide +kernel
theorem dX11_findWay_303 : decode cX11_findWay 303 = .ok (.iaload, 1) := by decide +kernel
theorem dX11_findWay_304 : decode cX11_findWay 304 = .ok (.if_icmp .eq 9, 3) := by decide +kernel
theorem dX11_findWay_307 : decode cX11_findWay 307 = .ok (.iinc 6 1, 3) := by decide +kernel
theorem dX11_findWay_310 : decode cX11_findWay 310 = .ok (.goto (-68), 3) := by decide +kernel
theorem dX11_findWay_313 : decode cX11_findWay 313 = .ok (.aload_n 0, 1) := by decide +kernel
theorem dX11_findWay_314 : decode cX11_findWay 314 = .ok (.getfield 85, 3) := by decide +kernel
theorem dX11_findWay_317 : decode cX11_findWay 317 = .ok (.aload_n 0, 1) := by decide +kernel
theorem dX11_findWay_318 : decode cX11_findWay 318 = .ok (.getfield 217, 3) := by decide +kernel
theorem dX11_findWay_321 : decode cX11_findWay 321 = .ok (.iload 6, 2) := by decide +kernel
theorem dX11_findWay_323 : decode cX11_findWay 323 = .ok (.iastore, 1) := by decide +kernel
theorem dX11_findWay_324 : decode cX11_findWay 324 = .ok (.aload_n 0, 1) := by decide +kernel
theorem dX11_findWay_325 : decode cX11_findWay 325 = .ok (.dup, 1) := by decide +kernel
theorem dX11_findWay_326 : decode cX11_findWay 326 = .ok (.getfield 217, 3) := by decide +kernel
theorem dX11_findWay_329 : decode cX11_findWay 329 = .ok (.iconst 1, 1) := by decide +kernel
theorem dX11_findWay_330 : decode cX11_findWay 330 = .ok (.iadd, 1) := by decide +kernel
theorem dX11_findWay_331 : decode cX11_findWay 331 = .ok (.putfield 217, 3) := by decide +kernel
theorem dX11_findWay_334 : decode cX11_findWay 334 = .ok (.aload_n 0, 1) := by decide +kernel
theorem dX11_findWay_335 : decode cX11_findWay 335 = .ok (.dup, 1) := by decide +kernel
theorem dX11_findWay_336 : decode cX11_findWay 336 = .ok (.getfield 220, 3) := by decide +kernel
theorem dX11_findWay_339 : decode cX11_findWay 339 = .ok (.aload_n 0, 1) := by decide +kernel
theorem dX11_findWay_340 : decode cX11_findWay 340 = .ok (.iload 6, 2) := by decide +kernel
theorem dX11_findWay_342 : decode cX11_findWay 342 = .ok (.invokevirtual 211, 3) := by decide +kernel
theorem dX11_findWay_345 : decode cX11_findWay 345 = .ok (.iadd, 1) := by decide +kernel
theorem dX11_findWay_346 : decode cX11_findWay 346 = .ok (.putfield 220, 3) := by decide +kernel
theorem dX11_findWay_349 : decode cX11_findWay 349 = .ok (.aload_n 0, 1) := by decide +kernel
theorem dX11_findWay_350 : decode cX11_findWay 350 = .ok (.aload_n 0, 1) := by decide +kernel
theorem dX11_findWay_351 : decode cX11_findWay 351 = .ok (.getfield 85, 3) := by decide +kernel
theorem dX11_findWay_354 : decode cX11_findWay 354 = .ok (.aload_n 0, 1) := by decide +kernel
theorem dX11_findWay_355 : decode cX11_findWay 355 = .ok (.getfield 217, 3) := by decide +kernel
theorem dX11_findWay_358 : decode cX11_findWay 358 = .ok (.iconst 1, 1) := by decide +kernel
theorem dX11_findWay_359 : decode cX11_findWay 359 = .ok (.isub, 1) := by decide +kernel
theorem dX11_findWay_360 : decode cX11_findWay 360 = .ok (.iaload, 1) := by decide +kernel
theorem dX11_findWay_361 : decode cX11_findWay 361 = .ok (.iload 5, 2) := by decide +kernel
theorem dX11_findWay_363 : decode cX11_findWay 363 = .ok (.invokevirtual 223, 3) := by decide +kernel
theorem dX11_findWay_366 : decode cX11_findWay 366 = .ok (.istore 5, 2) := by decide +kernel
theorem dX11_findWay_368 : decode cX11_findWay 368 = .ok (.goto (-135), 3) := by decide +kernel
theorem dX11_findWay_371 : decode cX11_findWay 371 = .ok (.iconst 1, 1) := by decide +kernel
theorem dX11_findWay_372 : decode cX11_findWay 372 = .ok (.ireturn, 1) := by decide +kernel
theorem dX11_lays_0 : decode cX11_lays 0 = .ok (.aload_n 0, 1) := by decide +kernel
theorem dX11_lays_1 : decode cX11_lays 1 = .ok (.aload_n 0, 1) := by decide +kernel
theorem dX11_lays_2 : decode cX11_lays 2 = .ok (.getfield 20, 3) := by decide +kernel
theorem dX11_lays_5 : decode cX11_lays 5 = .ok (.iconst 1, 1) := by decide +kernel
theorem dX11_lays_6 : decode cX11_lays 6 = .ok (.iaload, 1) := by decide +kernel
theorem dX11_lays_7 : decode cX11_lays 7 = .ok (.putfield 204, 3) := by decide +kernel
theorem dX11_lays_10 : decode cX11_lays 10 = .ok (.aload_n 0, 1) := by decide +kernel
theorem dX11_lays_11 : decode cX11_lays 11 = .ok (.aload_n 0, 1) := by decide +kernel
theorem dX11_lays_12 : decode cX11_lays 12 = .ok (.getfield 20, 3) := by decide +kernel
theorem dX11_lays_15 : decode cX11_lays 15 = .ok (.iconst 5, 1) := by decide +kernel
theorem dX11_lays_16 : decode cX11_lays 16 = .ok (.iaload, 1) := by decide +kernel
theorem dX11_lays_17 : decode cX11_lays 17 = .ok (.putfield 227, 3) := by decide +kernel
theorem dX11_lays_20 : decode cX11_lays 20 = .ok (.aload_n 0, 1) := by decide +kernel
theorem dX11_lays_21 : decode cX11_lays 21 = .ok (.aload_n 0, 1) := by decide +kernel
theorem dX11_lays_22 : decode cX11_lays 22 = .ok (.getfield 188, 3) := by decide +kernel
theorem dX11_lays_25 : decode cX11_lays 25 = .ok (.putfield 230, 3) := by decide +kernel
theorem dX11_lays_28 : decode cX11_lays 28 = .ok (.aload_n 0, 1) := by decide +kernel
theorem dX11_lays_29 : decode cX11_lays 29 = .ok (.aload_n 0, 1) := by decide +kernel
theorem dX11_lays_30 : decode cX11_lays 30 = .ok (.getfield 188, 3) := by decide +kernel
theorem dX11_lays_33 : decode cX11_lays 33 = .ok (.putfield 233, 3) := by decide +kernel
theorem dX11_lays_36 : decode cX11_lays 36 = .ok (.aload_n 0, 1) := by decide +kernel
theorem dX11_lays_37 : decode cX11_lays 37 = .ok (.iconst 0, 1) := by decide +kernel
theorem dX11_lays_38 : decode cX11_lays 38 = .ok (.putfield 236, 3) := by decide +kernel
theorem dX11_lays_41 : decode cX11_lays 41 = .ok (.aload_n 0, 1) := by decide +kernel
theorem dX11_lays_42 : decode cX11_lays 42 = .ok (.lconst 0, 1) := by decide +kernel
theorem dX11_lays_43 : decode cX11_lays 43 = .ok (.putfield 239, 3) := by decide +kernel
theorem dX11_lays_46 : decode cX11_lays 46 = .ok (.aload_n 0, 1) := by decide +kernel
theorem dX11_lays_47 : decode cX11_lays 47 = .ok (.lconst 0, 1) := by decide +kernel
theorem dX11_lays_48 : decode cX11_lays 48 = .ok (.putfield 243, 3) := by decide +kernel
theorem dX11_lays_51 : decode cX11_lays 51 = .ok (.aload_n 0, 1) := by decide +kernel
theorem dX11_lays_52 : decode cX11_lays 52 = .ok (.iconst 0, 1) := by decide +kernel
theorem dX11_lays_53 : decode cX11_lays 53 = .ok (.putfield 246, 3) := by decide +kernel
theorem dX11_lays_56 : decode cX11_lays 56 = .ok (.aload_n 0, 1) := by decide +kernel
theorem dX11_lays_57 : decode cX11_lays 57 = .ok (.iconst 0, 1) := by decide +kernel
theorem dX11_lays_58 : decode cX11_lays 58 = .ok (.putfield 249, 3) := by decide +kernel
theorem dX11_lays_61 : decode cX11_lays 61 = .ok (.iconst 0, 1) := by decide +kernel
theorem dX11_lays_62 : decode cX11_lays 62 = .ok (.istore_n 1, 1) := by decide +kernel
theorem dX11_lays_63 : decode cX11_lays 63 = .ok (.iload_n 1, 1) := by decide +kernel
theorem dX11_lays_64 : decode cX11_lays 64 = .ok (.aload_n 0, 1) := by decide +kernel
theorem dX11_lays_65 : decode cX11_lays 65 = .ok (.getfield 204, 3) := by decide +kernel
theorem dX11_lays_68 : decode cX11_lays 68 = .ok (.if_icmp .ge 33, 3) := by decide +kernel
theorem dX11_lays_71 : decode cX11_lays 71 = .ok (.aload_n 0, 1) := by decide +kernel
theorem dX11_lays_72 : decode cX11_lays 72 = .ok (.getfield 61, 3) := by decide +kernel
theorem dX11_lays_75 : decode cX11_lays 75 = .ok (.iload_n 1, 1) := by decide +kernel
theorem dX11_lays_76 : decode cX11_lays 76 = .ok (.aload_n 0, 1) := by decide +kernel
theorem dX11_lays_77 : decode cX11_lays 77 = .ok (.getfield 49, 3) := by decide +kernel
theorem dX11_lays_80 : decode cX11_lays 80 = .ok (.iload_n 1, 1) := by decide +kernel
theorem dX11_lays_81 : decode cX11_lays 81 = .ok (.iaload, 1) := by decide +kernel
theorem dX11_lays_82 : decode cX11_lays 82 = .ok (.iastore, 1) := by decide +kernel
theorem dX11_lays_83 : decode cX11_lays 83 = .ok (.aload_n 0, 1) := by decide +kernel
theorem dX11_lays_84 : decode cX11_lays 84 = .ok (.getfield 64, 3) := by decide +kernel
theorem dX11_lays_87 : decode cX11_lays 87 = .ok (.iload_n 1, 1) := by decide +kernel
theorem dX11_lays_88 : decode cX11_lays 88 = .ok (.aload_n 0, 1) := by decide +kernel
theorem dX11_lays_89 : decode cX11_lays 89 = .ok (.getfield 52, 3) := by decide +kernel
theorem dX11_lays_92 : decode cX11_lays 92 = .ok (.iload_n 1, 1) := by decide +kernel
theorem dX11_lays_93 : decode cX11_lays 93 = .ok (.iaload, 1) := by decide +kernel
theorem dX11_lays_94 : decode cX11_lays 94 = .ok (.iastore, 1) := by decide +kernel
theorem dX11_lays_95 : decode cX11_lays 95 = .ok (.iinc 1 1, 3) := by decide +kernel
theorem dX11_lays_98 : decode cX11_lays 98 = .ok (.goto (-35), 3) := by decide +kernel
theorem dX11_lays_101 : decode cX11_lays 101 = .ok (.return_, 1) := by decide +kernel
theorem dX11_areRoads_0 : decode cX11_areRoads 0 = .ok (.iload_n 1, 1) := by decide +kernel
theorem dX11_areRoads_1 : decode cX11_areRoads 1 = .ok (.iconst 0, 1) := by decide +kernel
theorem dX11_areRoads_2 : decode cX11_areRoads 2 = .ok (.iconst 1, 1) := by decide +kernel
theorem dX11_areRoads_3 : decode cX11_areRoads 3 = .ok (.aload_n 0, 1) := by decide +kernel
theorem dX11_areRoads_4 : decode cX11_areRoads 4 = .ok (.getfield 20, 3) := by decide +kernel
theorem dX11_areRoads_7 : decode cX11_areRoads 7 = .ok (.iconst 1, 1) := by decide +kernel
theorem dX11_areRoads_8 : decode cX11_areRoads 8 = .ok (.iaload, 1) := by decide +kernel
theorem dX11_areRoads_9 : decode cX11_areRoads 9 = .ok (.ishl, 1) := by decide +kernel
theorem dX11_areRoads_10 : decode cX11_areRoads 10 = .ok (.iconst 1, 1) := by decide +kernel
theorem dX11_areRoads_11 : decode cX11_areRoads 11 = .ok (.isub, 1) := by decide +kernel
theorem dX11_areRoads_12 : decode cX11_areRoads 12 = .ok (.invokestatic 138, 3) := by decide +kernel
theorem dX11_areRoads_15 : decode cX11_areRoads 15 = .ok (.ireturn, 1) := by decide +kernel
theorem dX11_way_0 : decode cX11_way 0 = .ok (.aload_n 0, 1) := by decide +kernel
theorem dX11_way_1 : decode cX11_way 1 = .ok (.iconst 0, 1) := by decide +kernel
theorem dX11_way_2 : decode cX11_way 2 = .ok (.putfield 104, 3) := by decide +kernel
theorem dX11_way_5 : decode cX11_way 5 = .ok (.aload_n 0, 1) := by decide +kernel
theorem dX11_way_6 : decode cX11_way 6 = .ok (.aload_n 0, 1) := by decide +kernel
theorem dX11_way_7 : decode cX11_way 7 = .ok (.iload_n 1, 1) := by decide +kernel
theorem dX11_way_8 : decode cX11_way 8 = .ok (.invokevirtual 200, 3) := by decide +kernel
theorem dX11_way_11 : decode cX11_way 11 = .ok (.ifCond .ne 7, 3) := by decide +kernel
theorem dX11_way_14 : decode cX11_way 14 = .ok (.iconst 1, 1) := by decide +kernel
theorem dX11_way_15 : decode cX11_way 15 = .ok (.goto 4, 3) := by decide +kernel
theorem dX11_way_18 : decode cX11_way 18 = .ok (.iconst 0, 1) := by decide +kernel
theorem dX11_way_19 : decode cX11_way 19 = .ok (.iconst 1, 1) := by decide +kernel
theorem dX11_way_20 : decode cX11_way 20 = .ok (.invokevirtual 181, 3) := by decide +kernel
theorem dX11_way_23 : decode cX11_way 23 = .ok (.ifCond .ne 24, 3) := by decide +kernel
theorem dX11_way_26 : decode cX11_way 26 = .ok (.aload_n 0, 1) := by decide +kernel
theorem dX11_way_27 : decode cX11_way 27 = .ok (.aload_n 0, 1) := by decide +kernel
theorem dX11_way_28 : decode cX11_way 28 = .ok (.iload_n 2, 1) := by decide +kernel
theorem dX11_way_29 : decode cX11_way 29 = .ok (.invokevirtual 252, 3) := by decide +kernel
theorem dX11_way_32 : decode cX11_way 32 = .ok (.ifCond .ne 7, 3) := by decide +kernel
theorem dX11_way_35 : decode cX11_way 35 = .ok (.iconst 1, 1) := by decide +kernel
theorem dX11_way_36 : decode cX11_way 36 = .ok (.goto 4, 3) := by decide +kernel
theorem dX11_way_39 : decode cX11_way 39 = .ok (.iconst 0, 1) := by decide +kernel
theorem dX11_way_40 : decode cX11_way 40 = .ok (.iconst 2, 1) := by decide +kernel
theorem dX11_way_41 : decode cX11_way 41 = .ok (.invokevirtual 181, 3) := by decide +kernel
theorem dX11_way_44 : decode cX11_way 44 = .ok (.ifCond .eq 5, 3) := by decide +kernel
theorem dX11_way_47 : decode cX11_way 47 = .ok (.iconst 0, 1) := by decide +kernel
theorem dX11_way_48 : decode cX11_way 48 = .ok (.ireturn, 1) := by decide +kernel
theorem dX11_way_49 : decode cX11_way 49 = .ok (.aload_n 0, 1) := by decide +kernel
theorem dX11_way_50 : decode cX11_way 50 = .ok (.invokevirtual 255, 3) := by decide +kernel
theorem dX11_way_53 : decode cX11_way 53 = .ok (.aload_n 0, 1) := by decide +kernel
theorem dX11_way_54 : decode cX11_way 54 = .ok (.aload_n 0, 1) := by decide +kernel
theorem dX11_way_55 : decode cX11_way 55 = .ok (.getfield 46, 3) := by decide +kernel
theorem dX11_way_58 : decode cX11_way 58 = .ok (.iload_n 1, 1) := by decide +kernel
theorem dX11_way_59 : decode cX11_way 59 = .ok (.aaload, 1) := by decide +kernel
theorem dX11_way_60 : decode cX11_way 60 = .ok (.iconst 0, 1) := by decide +kernel
theorem dX11_way_61 : decode cX11_way 61 = .ok (.iaload, 1) := by decide +kernel
theorem dX11_way_62 : decode cX11_way 62 = .ok (.aload_n 0, 1) := by decide +kernel
theorem dX11_way_63 : decode cX11_way 63 = .ok (.getfield 46, 3) := by decide +kernel
theorem dX11_way_66 : decode cX11_way 66 = .ok (.iload_n 1, 1) := by decide +kernel
theorem dX11_way_67 : decode cX11_way 67 = .ok (.aaload, 1) := by decide +kernel
theorem dX11_way_68 : decode cX11_way 68 = .ok (.iconst 1, 1) := by decide +kernel
theorem dX11_way_69 : decode cX11_way 69 = .ok (.iaload, 1) := by decide +kernel
theorem dX11_way_70 : decode cX11_way 70 = .ok (.iload_n 2, 1) := by decide +kernel
theorem dX11_way_71 : decode cX11_way 71 = .ok (.invokevirtual 258, 3) := by decide +kernel
theorem dX11_way_74 : decode cX11_way 74 = .ok (.ifCond .eq 10, 3) := by decide +kernel
theorem dX11_way_77 : decode cX11_way 77 = .ok (.aload_n 0, 1) := by decide +kernel
theorem dX11_way_78 : decode cX11_way 78 = .ok (.getfield 220, 3) := by decide +kernel
theorem dX11_way_81 : decode cX11_way 81 = .ok (.goto 4, 3) := by decide +kernel
theorem dX11_way_84 : decode cX11_way 84 = .ok (.iconst (-1), 1) := by decide +kernel
theorem dX11_way_85 : decode cX11_way 85 = .ok (.ireturn, 1) := by decide +kernel
theorem dX11_by_0 : decode cX11_by 0 = .ok (.aload_n 0, 1) := by decide +kernel
theorem dX11_by_1 : decode cX11_by 1 = .ok (.iconst 0, 1) := by decide +kernel
theorem dX11_by_2 : decode cX11_by 2 = .ok (.putfield 104, 3) := by decide +kernel
theorem dX11_by_5 : decode cX11_by 5 = .ok (.aload_n 0, 1) := by decide +kernel
theorem dX11_by_6 : decode cX11_by 6 = .ok (.aload_n 0, 1) := by decide +kernel
theorem dX11_by_7 : decode cX11_by 7 = .ok (.iload_n 1, 1) := by decide +kernel
theorem dX11_by_8 : decode cX11_by 8 = .ok (.invokevirtual 200, 3) := by decide +kernel
theorem dX11_by_11 : decode cX11_by 11 = .ok (.ifCond .ne 7, 3) := by decide +kernel
theorem dX11_by_14 : decode cX11_by 14 = .ok (.iconst 1, 1) := by decide +kernel
theorem dX11_by_15 : decode cX11_by 15 = .ok (.goto 4, 3) := by decide +kernel
theorem dX11_by_18 : decode cX11_by 18 = .ok (.iconst 0, 1) := by decide +kernel
theorem dX11_by_19 : decode cX11_by 19 = .ok (.iconst 1, 1) := by decide +kernel
theorem dX11_by_20 : decode cX11_by 20 = .ok (.invokevirtual 181, 3) := by decide +kernel
theorem dX11_by_23 : decode cX11_by 23 = .ok (.ifCond .ne 24, 3) := by decide +kernel
theorem dX11_by_26 : decode cX11_by 26 = .ok (.aload_n 0, 1) := by decide +kernel
theorem dX11_by_27 : decode cX11_by 27 = .ok (.aload_n 0, 1) := by decide +kernel
theorem dX11_by_28 : decode cX11_by 28 = .ok (.iload_n 2, 1) := by decide +kernel
theorem dX11_by_29 : decode cX11_by 29 = .ok (.invokevirtual 252, 3) := by decide +kernel
theorem dX11_by_32 : decode cX11_by 32 = .ok (.ifCond .ne 7, 3) := by decide +kernel
theorem dX11_by_35 : decode cX11_by 35 = .ok (.iconst 1, 1) := by decide +kernel
theorem dX11_by_36 : decode cX11_by 36 = .ok (.goto 4, 3) := by decide +kernel
theorem dX11_by_39 : decode cX11_by 39 = .ok (.iconst 0, 1) := by decide +kernel
theorem dX11_by_40 : decode cX11_by 40 = .ok (.iconst 2, 1) := by decide +kernel
theorem dX11_by_41 : decode cX11_by 41 = .ok (.invokevirtual 181, 3) := by decide +kernel
theorem dX11_by_44 : decode cX11_by 44 = .ok (.ifCond .eq 5, 3) := by decide +kernel
theorem dX11_by_47 : decode cX11_by 47 = .ok (.iconst 0, 1) := by decide +kernel
theorem dX11_by_48 : decode cX11_by 48 = .ok (.ireturn, 1) := by decide +kernel
theorem dX11_by_49 : decode cX11_by 49 = .ok (.aload_n 0, 1) := by decide +kernel
theorem dX11_by_50 : decode cX11_by 50 = .ok (.invokevirtual 255, 3) := by decide +kernel
theorem dX11_by_53 : decode cX11_by 53 = .ok (.aload_n 0, 1) := by decide +kernel
theorem dX11_by_54 : decode cX11_by 54 = .ok (.aload_n 0, 1) := by decide +kernel
theorem dX11_by_55 : decode cX11_by 55 = .ok (.getfield 46, 3) := by decide +kernel
theorem dX11_by_58 : decode cX11_by 58 = .ok (.iload_n 1, 1) := by decide +kernel
theorem dX11_by_59 : decode cX11_by 59 = .ok (.aaload, 1) := by decide +kernel
theorem dX11_by_60 : decode cX11_by 60 = .ok (.iconst 0, 1) := by decide +kernel
theorem dX11_by_61 : decode cX11_by 61 = .ok (.iaload, 1) := by decide +kernel
theorem dX11_by_62 : decode cX11_by 62 = .ok (.aload_n 0, 1) := by decide +kernel
theorem dX11_by_63 : decode cX11_by 63 = .ok (.getfield 46, 3) := by decide +kernel
theorem dX11_by_66 : decode cX11_by 66 = .ok (.iload_n 1, 1) := by decide +kernel
theorem dX11_by_67 : decode cX11_by 67 = .ok (.aaload, 1) := by decide +kernel
theorem dX11_by_68 : decode cX11_by 68 = .ok (.iconst 1, 1) := by decide +kernel
theorem dX11_by_69 : decode cX11_by 69 = .ok (.iaload, 1) := by decide +kernel
theorem dX11_by_70 : decode cX11_by 70 = .ok (.iload_n 2, 1) := by decide +kernel
theorem dX11_by_71 : decode cX11_by 71 = .ok (.invokevirtual 258, 3) := by decide +kernel
theorem dX11_by_74 : decode cX11_by 74 = .ok (.ifCond .eq 26, 3) := by decide +kernel
theorem dX11_by_77 : decode cX11_by 77 = .ok (.iload_n 3, 1) := by decide +kernel
theorem dX11_by_78 : decode cX11_by 78 = .ok (.iconst 0, 1) := by decide +kernel
theorem dX11_by_79 : decode cX11_by 79 = .ok (.aload_n 0, 1) := by decide +kernel
theorem dX11_by_80 : decode cX11_by 80 = .ok (.getfield 217, 3) := by decide +kernel
theorem dX11_by_83 : decode cX11_by 83 = .ok (.iconst 1, 1) := by decide +kernel
theorem dX11_by_84 : decode cX11_by 84 = .ok (.isub, 1) := by decide +kernel
theorem dX11_by_85 : decode cX11_by 85 = .ok (.invokestatic 138, 3) := by decide +kernel
theorem dX11_by_88 : decode cX11_by 88 = .ok (.ifCond .eq 12, 3) := by decide +kernel
theorem dX11_by_91 : decode cX11_by 91 = .ok (.aload_n 0, 1) := by decide +kernel
theorem dX11_by_92 : decode cX11_by 92 = .ok (.getfield 85, 3) := by decide +kernel
theorem dX11_by_95 : decode cX11_by 95 = .ok (.iload_n 3, 1) := by decide +kernel
theorem dX11_by_96 : decode cX11_by 96 = .ok (.iaload, 1) := by decide +kernel
theorem dX11_by_97 : decode cX11_by 97 = .ok (.goto 4, 3) := by decide +kernel
theorem dX11_by_100 : decode cX11_by 100 = .ok (.iconst (-1), 1) := by decide +kernel
theorem dX11_by_101 : decode cX11_by 101 = .ok (.ireturn, 1) := by decide +kernel
theorem dX11_isOn_0 : decode cX11_isOn 0 = .ok (.iload_n 1, 1) := by decide +kernel
theorem dX11_isOn_1 : decode cX11_isOn 1 = .ok (.aload_n 0, 1) := by decide +kernel
theorem dX11_isOn_2 : decode cX11_isOn 2 = .ok (.getfield 73, 3) := by decide +kernel
theorem dX11_isOn_5 : decode cX11_isOn 5 = .ok (.if_icmp .ne 5, 3) := by decide +kernel
theorem dX11_isOn_8 : decode cX11_isOn 8 = .ok (.iconst 0, 1) := by decide +kernel
theorem dX11_isOn_9 : decode cX11_isOn 9 = .ok (.ireturn, 1) := by decide +kernel
theorem dX11_isOn_10 : decode cX11_isOn 10 = .ok (.aload_n 0, 1) := by decide +kernel
theorem dX11_isOn_11 : decode cX11_isOn 11 = .ok (.getfield 230, 3) := by decide +kernel
theorem dX11_isOn_14 : decode cX11_isOn 14 = .ok (.istore_n 2, 1) := by decide +kernel
theorem dX11_isOn_15 : decode cX11_isOn 15 = .ok (.iload_n 1, 1) := by decide +kernel
theorem dX11_isOn_16 : decode cX11_isOn 16 = .ok (.aload_n 0, 1) := by decide +kernel
theorem dX11_isOn_17 : decode cX11_isOn 17 = .ok (.getfield 76, 3) := by decide +kernel
theorem dX11_isOn_20 : decode cX11_isOn 20 = .ok (.if_icmp .ne 10, 3) := by decide +kernel
theorem dX11_isOn_23 : decode cX11_isOn 23 = .ok (.iload_n 2, 1) := by decide +kernel
theorem dX11_isOn_24 : decode cX11_isOn 24 = .ok (.aload_n 0, 1) := by decide +kernel
theorem dX11_isOn_25 : decode cX11_isOn 25 = .ok (.getfield 261, 3) := by decide +kernel
theorem dX11_isOn_28 : decode cX11_isOn 28 = .ok (.isub, 1) := by decide +kernel
theorem dX11_isOn_29 : decode cX11_isOn 29 = .ok (.istore_n 2, 1) := by decide +kernel
theorem dX11_isOn_30 : decode cX11_isOn 30 = .ok (.iload_n 2, 1) := by decide +kernel
theorem dX11_isOn_31 : decode cX11_isOn 31 = .ok (.iload_n 1, 1) := by decide +kernel
theorem dX11_isOn_32 : decode cX11_isOn 32 = .ok (.aload_n 0, 1) := by decide +kernel
theorem dX11_isOn_33 : decode cX11_isOn 33 = .ok (.getfield 76, 3) := by decide +kernel
theorem dX11_isOn_36 : decode cX11_isOn 36 = .ok (.if_icmp .ne 10, 3) := by decide +kernel
theorem dX11_isOn_39 : decode cX11_isOn 39 = .ok (.aload_n 0, 1) := by decide +kernel
theorem dX11_isOn_40 : decode cX11_isOn 40 = .ok (.getfield 233, 3) := by decide +kernel
theorem dX11_isOn_43 : decode cX11_isOn 43 = .ok (.goto 4, 3) := by decide +kernel
theorem dX11_isOn_46 : decode cX11_isOn 46 = .ok (.iconst 0, 1) := by decide +kernel
theorem dX11_isOn_47 : decode cX11_isOn 47 = .ok (.if_icmp .lt 26, 3) := by decide +kernel
theorem dX11_isOn_50 : decode cX11_isOn 50 = .ok (.aload_n 0, 1) := by decide +kernel
theorem dX11_isOn_51 : decode cX11_isOn 51 = .ok (.getfield 46, 3) := by decide +kernel
theorem dX11_isOn_54 : decode cX11_isOn 54 = .ok (.iload_n 1, 1) := by decide +kernel
theorem dX11_isOn_55 : decode cX11_isOn 55 = .ok (.aaload, 1) := by decide +kernel
theorem dX11_isOn_56 : decode cX11_isOn 56 = .ok (.iconst 2, 1) := by decide +kernel
theorem dX11_isOn_57 : decode cX11_isOn 57 = .ok (.iaload, 1) := by decide +kernel
theorem dX11_isOn_58 : decode cX11_isOn 58 = .ok (.iload_n 2, 1) := by decide +kernel
theorem dX11_isOn_59 : decode cX11_isOn 59 = .ok (.bipush 7, 2) := by decide +kernel
theorem dX11_isOn_61 : decode cX11_isOn 61 = .ok (.irem, 1) := by decide +kernel
theorem dX11_isOn_62 : decode cX11_isOn 62 = .ok (.ishr, 1) := by decide +kernel
theorem dX11_isOn_63 : decode cX11_isOn 63 = .ok (.iconst 1, 1) := by decide +kernel
theorem dX11_isOn_64 : decode cX11_isOn 64 = .ok (.iand, 1) := by decide +kernel
theorem dX11_isOn_65 : decode cX11_isOn 65 = .ok (.iconst 1, 1) := by decide +kernel
theorem dX11_isOn_66 : decode cX11_isOn 66 = .ok (.if_icmp .ne 7, 3) := by decide +kernel
theorem dX11_isOn_69 : decode cX11_isOn 69 = .ok (.iconst 1, 1) := by decide +kernel
theorem dX11_isOn_70 : decode cX11_isOn 70 = .ok (.goto 4, 3) := by decide +kernel
theorem dX11_isOn_73 : decode cX11_isOn 73 = .ok (.iconst 0, 1) := by decide +kernel
theorem dX11_isOn_74 : decode cX11_isOn 74 = .ok (.ireturn, 1) := by decide +kernel
theorem dX11_allHave_0 : decode cX11_allHave 0 = .ok (.iconst 0, 1) := by decide +kernel
theorem dX11_allHave_1 : decode cX11_allHave 1 = .ok (.istore_n 2, 1) := by decide +kernel
theorem dX11_allHave_2 : decode cX11_allHave 2 = .ok (.iload_n 2, 1) := by decide +kernel
theorem dX11_allHave_3 : decode cX11_allHave 3 = .ok (.aload_n 0, 1) := by decide +kernel
theorem dX11_allHave_4 : decode cX11_allHave 4 = .ok (.getfield 20, 3) := by decide +kernel
theorem dX11_allHave_7 : decode cX11_allHave 7 = .ok (.iconst 3, 1) := by decide +kernel
theorem dX11_allHave_8 : decode cX11_allHave 8 = .ok (.iaload, 1) := by decide +kernel
theorem dX11_allHave_9 : decode cX11_allHave 9 = .ok (.if_icmp .ge 43, 3) := by decide +kernel
theorem dX11_allHave_12 : decode cX11_allHave 12 = .ok (.aload_n 0, 1) := by decide +kernel
theorem dX11_allHave_13 : decode cX11_allHave 13 = .ok (.iload_n 2, 1) := by decide +kernel
theorem dX11_allHave_14 : decode cX11_allHave 14 = .ok (.invokevirtual 264, 3) := by decide +kernel
theorem dX11_allHave_17 : decode cX11_allHave 17 = .ok (.ifCond .eq 29, 3) := by decide +kernel
theorem dX11_allHave_20 : decode cX11_allHave 20 = .ok (.aload_n 0, 1) := by decide +kernel
theorem dX11_allHave_21 : decode cX11_allHave 21 = .ok (.aload_n 0, 1) := by decide +kernel
theorem dX11_allHave_22 : decode cX11_allHave 22 = .ok (.getfield 46, 3) := by decide +kernel
theorem dX11_allHave_25 : decode cX11_allHave 25 = .ok (.iload_n 2, 1) := by decide +kernel
theorem dX11_allHave_26 : decode cX11_allHave 26 = .ok (.aaload, 1) := by decide +kernel
theorem dX11_allHave_27 : decode cX11_allHave 27 = .ok (.iconst 0, 1) := by decide +kernel
theorem dX11_allHave_28 : decode cX11_allHave 28 = .ok (.iaload, 1) := by decide +kernel
theorem dX11_allHave_29 : decode cX11_allHave 29 = .ok (.aload_n 0, 1) := by decide +kernel
theorem dX11_allHave_30 : decode cX11_allHave 30 = .ok (.getfield 46, 3) := by decide +kernel
theorem dX11_allHave_33 : decode cX11_allHave 33 = .ok (.iload_n 2, 1) := by decide +kernel
theorem dX11_allHave_34 : decode cX11_allHave 34 = .ok (.aaload, 1) := by decide +kernel
theorem dX11_allHave_35 : decode cX11_allHave 35 = .ok (.iconst 1, 1) := by decide +kernel
theorem dX11_allHave_36 : decode cX11_allHave 36 = .ok (.iaload, 1) := by decide +kernel
theorem dX11_allHave_37 : decode cX11_allHave 37 = .ok (.iload_n 1, 1) := by decide +kernel
theorem dX11_allHave_38 : decode cX11_allHave 38 = .ok (.invokevirtual 258, 3) := by decide +kernel
theorem dX11_allHave_41 : decode cX11_allHave 41 = .ok (.ifCond .ne 5, 3) := by decide +kernel
theorem dX11_allHave_44 : decode cX11_allHave 44 = .ok (.iconst 0, 1) := by decide +kernel
theorem dX11_allHave_45 : decode cX11_allHave 45 = .ok (.ireturn, 1) := by decide +kernel
theorem dX11_allHave_46 : decode cX11_allHave 46 = .ok (.iinc 2 1, 3) := by decide +kernel
theorem dX11_allHave_49 : decode cX11_allHave 49 = .ok (.goto (-47), 3) := by decide +kernel
theorem dX11_allHave_52 : decode cX11_allHave 52 = .ok (.iconst 1, 1) := by decide +kernel
theorem dX11_allHave_53 : decode cX11_allHave 53 = .ok (.ireturn, 1) := by decide +kernel
theorem dX11_shutBy_0 : decode cX11_shutBy 0 = .ok (.iload_n 1, 1) := by decide +kernel
theorem dX11_shutBy_1 : decode cX11_shutBy 1 = .ok (.ifCond .ne 5, 3) := by decide +kernel
theorem dX11_shutBy_4 : decode cX11_shutBy 4 = .ok (.iconst 0, 1) := by decide +kernel
theorem dX11_shutBy_5 : decode cX11_shutBy 5 = .ok (.ireturn, 1) := by decide +kernel
theorem dX11_shutBy_6 : decode cX11_shutBy 6 = .ok (.iload_n 1, 1) := by decide +kernel
theorem dX11_shutBy_7 : decode cX11_shutBy 7 = .ok (.iconst 1, 1) := by decide +kernel
theorem dX11_shutBy_8 : decode cX11_shutBy 8 = .ok (.if_icmp .ne 18, 3) := by decide +kernel
theorem dX11_shutBy_11 : decode cX11_shutBy 11 = .ok (.aload_n 0, 1) := by decide +kernel
theorem dX11_shutBy_12 : decode cX11_shutBy 12 = .ok (.getfield 55, 3) := by decide +kernel
theorem dX11_shutBy_15 : decode cX11_shutBy 15 = .ok (.aload_n 0, 1) := by decide +kernel
theorem dX11_shutBy_16 : decode cX11_shutBy 16 = .ok (.getfield 236, 3) := by decide +kernel
theorem dX11_shutBy_19 : decode cX11_shutBy 19 = .ok (.aload_n 0, 1) := by decide +kernel
theorem dX11_shutBy_20 : decode cX11_shutBy 20 = .ok (.getfield 191, 3) := by decide +kernel
theorem dX11_shutBy_23 : decode cX11_shutBy 23 = .ok (.irem, 1) := by decide +kernel
theorem dX11_shutBy_24 : decode cX11_shutBy 24 = .ok (.iaload, 1) := by decide +kernel
theorem dX11_shutBy_25 : decode cX11_shutBy 25 = .ok (.ireturn, 1) := by decide +kernel
theorem dX11_shutBy_26 : decode cX11_shutBy 26 = .ok (.iconst 0, 1) := by decide +kernel
theorem dX11_shutBy_27 : decode cX11_shutBy 27 = .ok (.istore_n 2, 1) := by decide +kernel
theorem dX11_shutBy_28 : decode cX11_shutBy 28 = .ok (.iload_n 1, 1) := by decide +kernel
theorem dX11_shutBy_29 : decode cX11_shutBy 29 = .ok (.iconst 2, 1) := by decide +kernel
theorem dX11_shutBy_30 : decode cX11_shutBy 30 = .ok (.if_icmp .ne 91, 3) := by decide +kernel
theorem dX11_shutBy_33 : decode cX11_shutBy 33 = .ok (.iconst (-1), 1) := by decide +kernel
theorem dX11_shutBy_34 : decode cX11_shutBy 34 = .ok (.istore_n 3, 1) := by decide +kernel
theorem dX11_shutBy_35 : decode cX11_shutBy 35 = .ok (.iconst 0, 1) := by decide +kernel
theorem dX11_shutBy_36 : decode cX11_shutBy 36 = .ok (.istore 4, 2) := by decide +kernel
theorem dX11_shutBy_38 : decode cX11_shutBy 38 = .ok (.iload 4, 2) := by decide +kernel
theorem dX11_shutBy_40 : decode cX11_shutBy 40 = .ok (.aload_n 0, 1) := by decide +kernel
theorem dX11_shutBy_41 : decode cX11_shutBy 41 = .ok (.getfield 204, 3) := by decide +kernel
theorem dX11_shutBy_44 : decode cX11_shutBy 44 = .ok (.if_icmp .ge 54, 3) := by decide +kernel
theorem dX11_shutBy_47 : decode cX11_shutBy 47 = .ok (.iconst 2, 1) := by decide +kernel
theorem dX11_shutBy_48 : decode cX11_shutBy 48 = .ok (.aload_n 0, 1) := by decide +kernel
theorem dX11_shutBy_49 : decode cX11_shutBy 49 = .ok (.getfield 61, 3) := by decide +kernel
theorem dX11_shutBy_52 : decode cX11_shutBy 52 = .ok (.iload 4, 2) := by decide +kernel
theorem dX11_shutBy_54 : decode cX11_shutBy 54 = .ok (.iaload, 1) := by decide +kernel
theorem dX11_shutBy_55 : decode cX11_shutBy 55 = .ok (.imul, 1) := by decide +kernel
theorem dX11_shutBy_56 : decode cX11_shutBy 56 = .ok (.aload_n 0, 1) := by decide +kernel
theorem dX11_shutBy_57 : decode cX11_shutBy 57 = .ok (.getfield 34, 3) := by decide +kernel
theorem dX11_shutBy_60 : decode cX11_shutBy 60 = .ok (.iload 4, 2) := by decide +kernel
theorem dX11_shutBy_62 : decode cX11_shutBy 62 = .ok (.aaload, 1) := by decide +kernel
theorem dX11_shutBy_63 : decode cX11_shutBy 63 = .ok (.iconst 4, 1) := by decide +kernel
theorem dX11_shutBy_64 : decode cX11_shutBy 64 = .ok (.iaload, 1) := by decide +kernel
theorem dX11_shutBy_65 : decode cX11_shutBy 65 = .ok (.if_icmp .le 27, 3) := by decide +kernel
theorem dX11_shutBy_68 : decode cX11_shutBy 68 = .ok (.iload_n 3, 1) := by decide +kernel
theorem dX11_shutBy_69 : decode cX11_shutBy 69 = .ok (.iconst (-1), 1) := by decide +kernel
theorem dX11_shutBy_70 : decode cX11_shutBy 70 = .ok (.if_icmp .eq 19, 3) := by decide +kernel
theorem dX11_shutBy_73 : decode cX11_shutBy 73 = .ok (.aload_n 0, 1) := by decide +kernel
theorem dX11_shutBy_74 : decode cX11_shutBy 74 = .ok (.getfield 61, 3) := by decide +kernel
theorem dX11_shutBy_77 : decode cX11_shutBy 77 = .ok (.iload 4, 2) := by decide +kernel
theorem dX11_shutBy_79 : decode cX11_shutBy 79 = .ok (.iaload, 1) := by decide +kernel
theorem dX11_shutBy_80 : decode cX11_shutBy 80 = .ok (.aload_n 0, 1) := by decide +kernel
theorem dX11_shutBy_81 : decode cX11_shutBy 81 = .ok (.getfield 61, 3) := by decide +kernel
theorem dX11_shutBy_84 : decode cX11_shutBy 84 = .ok (.iload_n 3, 1) := by decide +kernel
theorem dX11_shutBy_85 : decode cX11_shutBy 85 = .ok (.iaload, 1) := by decide +kernel
theorem dX11_shutBy_86 : decode cX11_shutBy 86 = .ok (.if_icmp .le 6, 3) := by decide +kernel
theorem dX11_shutBy_89 : decode cX11_shutBy 89 = .ok (.iload 4, 2) := by decide +kernel
theorem dX11_shutBy_91 : decode cX11_shutBy 91 = .ok (.istore_n 3, 1) := by decide +kernel
theorem dX11_shutBy_92 : decode cX11_shutBy 92 = .ok (.iinc 4 1, 3) := by decide +kernel
theorem dX11_shutBy_95 : decode cX11_shutBy 95 = .ok (.goto (-57), 3) := by decide +kernel
theorem dX11_shutBy_98 : decode cX11_shutBy 98 = .ok (.iload_n 3, 1) := by decide +kernel
theorem dX11_shutBy_99 : decode cX11_shutBy 99 = .ok (.iconst (-1), 1) := by decide +kernel
theorem dX11_shutBy_100 : decode cX11_shutBy 100 = .ok (.if_icmp .eq 19, 3) := by decide +kernel
theorem dX11_shutBy_103 : decode cX11_shutBy 103 = .ok (.aload_n 0, 1) := by decide +kernel
theorem dX11_shutBy_104 : decode cX11_shutBy 104 = .ok (.iconst 1, 1) := by decide +kernel
theorem dX11_shutBy_105 : decode cX11_shutBy 105 = .ok (.iload_n 3, 1) := by decide +kernel
theorem dX11_shutBy_106 : decode cX11_shutBy 106 = .ok (.ishl, 1) := by decide +kernel
theorem dX11_shutBy_107 : decode cX11_shutBy 107 = .ok (.invokevirtual 267, 3) := by decide +kernel
theorem dX11_shutBy_110 : decode cX11_shutBy 110 = .ok (.ifCond .eq 9, 3) := by decide +kernel
theorem dX11_shutBy_113 : decode cX11_shutBy 113 = .ok (.iconst 1, 1) := by decide +kernel
theorem dX11_shutBy_114 : decode cX11_shutBy 114 = .ok (.iload_n 3, 1) := by decide +kernel
theorem dX11_shutBy_115 : decode cX11_shutBy 115 = .ok (.ishl, 1) := by decide +kernel
theorem dX11_shutBy_116 : decode cX11_shutBy 116 = .ok (.goto 4, 3) := by decide +kernel
theorem dX11_shutBy_119 : decode cX11_shutBy 119 = .ok (.iconst 0, 1) := by decide +kernel
theorem dX11_shutBy_120 : decode cX11_shutBy 120 = .ok (.ireturn, 1) := by decide +kernel
theorem dX11_shutBy_121 : decode cX11_shutBy 121 = .ok (.iconst 0, 1) := by decide +kernel
theorem dX11_shutBy_122 : decode cX11_shutBy 122 = .ok (.istore_n 3, 1) := by decide +kernel
theorem dX11_shutBy_123 : decode cX11_shutBy 123 = .ok (.iload_n 3, 1) := by decide +kernel
theorem dX11_shutBy_124 : decode cX11_shutBy 124 = .ok (.aload_n 0, 1) := by decide +kernel
theorem dX11_shutBy_125 : decode cX11_shutBy 125 = .ok (.getfield 204, 3) := by decide +kernel
theorem dX11_shutBy_128 : decode cX11_shutBy 128 = .ok (.if_icmp .ge 45, 3) := by decide +kernel
theorem dX11_shutBy_131 : decode cX11_shutBy 131 = .ok (.aload_n 0, 1) := by decide +kernel
theorem dX11_shutBy_132 : decode cX11_shutBy 132 = .ok (.getfield 61, 3) := by decide +kernel
theorem dX11_shutBy_135 : decode cX11_shutBy 135 = .ok (.iload_n 3, 1) := by decide +kernel
theorem dX11_shutBy_136 : decode cX11_shutBy 136 = .ok (.iaload, 1) := by decide +kernel
theorem dX11_shutBy_137 : decode cX11_shutBy 137 = .ok (.ifCond .le 30, 3) := by decide +kernel
theorem dX11_shutBy_140 : decode cX11_shutBy 140 = .ok (.aload_n 0, 1) := by decide +kernel
theorem dX11_shutBy_141 : decode cX11_shutBy 141 = .ok (.getfield 64, 3) := by decide +kernel
theorem dX11_shutBy_144 : decode cX11_shutBy 144 = .ok (.iload_n 3, 1) := by decide +kernel
theorem dX11_shutBy_145 : decode cX11_shutBy 145 = .ok (.iaload, 1) := by decide +kernel
theorem dX11_shutBy_146 : decode cX11_shutBy 146 = .ok (.ifCond .le 21, 3) := by decide +kernel
theorem dX11_shutBy_149 : decode cX11_shutBy 149 = .ok (.aload_n 0, 1) := by decide +kernel
theorem dX11_shutBy_150 : decode cX11_shutBy 150 = .ok (.iload_n 2, 1) := by decide +kernel
theorem dX11_shutBy_151 : decode cX11_shutBy 151 = .ok (.iconst 1, 1) := by decide +kernel
theorem dX11_shutBy_152 : decode cX11_shutBy 152 = .ok (.iload_n 3, 1) := by decide +kernel
theorem dX11_shutBy_153 : decode cX11_shutBy 153 = .ok (.ishl, 1) := by decide +kernel
theorem dX11_shutBy_154 : decode cX11_shutBy 154 = .ok (.ior, 1) := by decide +kernel
theorem dX11_shutBy_155 : decode cX11_shutBy 155 = .ok (.invokevirtual 267, 3) := by decide +kernel
theorem dX11_shutBy_158 : decode cX11_shutBy 158 = .ok (.ifCond .eq 9, 3) := by decide +kernel
theorem dX11_shutBy_161 : decode cX11_shutBy 161 = .ok (.iload_n 2, 1) := by decide +kernel
theorem dX11_shutBy_162 : decode cX11_shutBy 162 = .ok (.iconst 1, 1) := by decide +kernel
theorem dX11_shutBy_163 : decode cX11_shutBy 163 = .ok (.iload_n 3, 1) := by decide +kernel
theorem dX11_shutBy_164 : decode cX11_shutBy 164 = .ok (.ishl, 1) := by decide +kernel
theorem dX11_shutBy_165 : decode cX11_shutBy 165 = .ok (.ior, 1) := by decide +kernel
theorem dX11_shutBy_166 : decode cX11_shutBy 166 = .ok (.istore_n 2, 1) := by decide +kernel
theorem dX11_shutBy_167 : decode cX11_shutBy 167 = .ok (.iinc 3 1, 3) := by decide +kernel
theorem dX11_shutBy_170 : decode cX11_shutBy 170 = .ok (.goto (-47), 3) := by decide +kernel
theorem dX11_shutBy_173 : decode cX11_shutBy 173 = .ok (.iload_n 2, 1) := by decide +kernel
theorem dX11_shutBy_174 : decode cX11_shutBy 174 = .ok (.ireturn, 1) := by decide +kernel
theorem dX11_goesByLot_0 : decode cX11_goesByLot 0 = .ok (.aload_n 0, 1) := by decide +kernel
theorem dX11_goesByLot_1 : decode cX11_goesByLot 1 = .ok (.getfield 79, 3) := by decide +kernel
theorem dX11_goesByLot_4 : decode cX11_goesByLot 4 = .ok (.iconst (-1), 1) := by decide +kernel
theorem dX11_goesByLot_5 : decode cX11_goesByLot 5 = .ok (.if_icmp .eq 16, 3) := by decide +kernel
theorem dX11_goesByLot_8 : decode cX11_goesByLot 8 = .ok (.aload_n 0, 1) := by decide +kernel
theorem dX11_goesByLot_9 : decode cX11_goesByLot 9 = .ok (.getfield 46, 3) := by decide +kernel
theorem dX11_goesByLot_12 : decode cX11_goesByLot 12 = .ok (.iload_n 1, 1) := by decide +kernel
theorem dX11_goesByLot_13 : decode cX11_goesByLot 13 = .ok (.aaload, 1) := by decide +kernel
theorem dX11_goesByLot_14 : decode cX11_goesByLot 14 = .ok (.iconst 4, 1) := by decide +kernel
theorem dX11_goesByLot_15 : decode cX11_goesByLot 15 = .ok (.iaload, 1) := by decide +kernel
theorem dX11_goesByLot_16 : decode cX11_goesByLot 16 = .ok (.bipush 8, 2) := by decide +kernel
theorem dX11_goesByLot_18 : decode cX11_goesByLot 18 = .ok (.if_icmp .ne 5, 3) := by decide +kernel
theorem dX11_goesByLot_21 : decode cX11_goesByLot 21 = .ok (.iconst 1, 1) := by decide +kernel
theorem dX11_goesByLot_22 : decode cX11_goesByLot 22 = .ok (.ireturn, 1) := by decide +kernel
theorem dX11_goesByLot_23 : decode cX11_goesByLot 23 = .ok (.aload_n 0, 1) := by decide +kernel
theorem dX11_goesByLot_24 : decode cX11_goesByLot 24 = .ok (.aload_n 0, 1) := by decide +kernel
theorem dX11_goesByLot_25 : decode cX11_goesByLot 25 = .ok (.getfield 270, 3) := by decide +kernel
theorem dX11_goesByLot_28 : decode cX11_goesByLot 28 = .ok (.ldc_w 273, 3) := by decide +kernel
theorem dX11_goesByLot_31 : decode cX11_goesByLot 31 = .ok (.imul, 1) := by decide +kernel
theorem dX11_goesByLot_32 : decode cX11_goesByLot 32 = .ok (.sipush 12345, 3) := by decide +kernel
theorem dX11_goesByLot_35 : decode cX11_goesByLot 35 = .ok (.iadd, 1) := by decide +kernel
theorem dX11_goesByLot_36 : decode cX11_goesByLot 36 = .ok (.putfield 270, 3) := by decide +kernel
theorem dX11_goesByLot_39 : decode cX11_goesByLot 39 = .ok (.aload_n 0, 1) := by decide +kernel
theorem dX11_goesByLot_40 : decode cX11_goesByLot 40 = .ok (.getfield 270, 3) := by decide +kernel
theorem dX11_goesByLot_43 : decode cX11_goesByLot 43 = .ok (.bipush 16, 2) := by decide +kernel
theorem dX11_goesByLot_45 : decode cX11_goesByLot 45 = .ok (.ishr, 1) := by decide +kernel
theorem dX11_goesByLot_46 : decode cX11_goesByLot 46 = .ok (.bipush 7, 2) := by decide +kernel
theorem dX11_goesByLot_48 : decode cX11_goesByLot 48 = .ok (.iand, 1) := by decide +kernel
theorem dX11_goesByLot_49 : decode cX11_goesByLot 49 = .ok (.aload_n 0, 1) := by decide +kernel
theorem dX11_goesByLot_50 : decode cX11_goesByLot 50 = .ok (.getfield 46, 3) := by decide +kernel
theorem dX11_goesByLot_53 : decode cX11_goesByLot 53 = .ok (.iload_n 1, 1) := by decide +kernel
theorem dX11_goesByLot_54 : decode cX11_goesByLot 54 = .ok (.aaload, 1) := by decide +kernel
theorem dX11_goesByLot_55 : decode cX11_goesByLot 55 = .ok (.iconst 4, 1) := by decide +kernel
theorem dX11_goesByLot_56 : decode cX11_goesByLot 56 = .ok (.iaload, 1) := by decide +kernel
theorem dX11_goesByLot_57 : decode cX11_goesByLot 57 = .ok (.if_icmp .ge 7, 3) := by decide +kernel
theorem dX11_goesByLot_60 : decode cX11_goesByLot 60 = .ok (.iconst 1, 1) := by decide +kernel
theorem dX11_goesByLot_61 : decode cX11_goesByLot 61 = .ok (.goto 4, 3) := by decide +kernel
theorem dX11_goesByLot_64 : decode cX11_goesByLot 64 = .ok (.iconst 0, 1) := by decide +kernel
theorem dX11_goesByLot_65 : decode cX11_goesByLot 65 = .ok (.ireturn, 1) := by decide +kernel
theorem dX11_isWet_0 : decode cX11_isWet 0 = .ok (.iconst 0, 1) := by decide +kernel
theorem dX11_isWet_1 : decode cX11_isWet 1 = .ok (.istore_n 1, 1) := by decide +kernel
theorem dX11_isWet_2 : decode cX11_isWet 2 = .ok (.iload_n 1, 1) := by decide +kernel
theorem dX11_isWet_3 : decode cX11_isWet 3 = .ok (.aload_n 0, 1) := by decide +kernel
theorem dX11_isWet_4 : decode cX11_isWet 4 = .ok (.getfield 20, 3) := by decide +kernel
theorem dX11_isWet_7 : decode cX11_isWet 7 = .ok (.iconst 4, 1) := by decide +kernel
theorem dX11_isWet_8 : decode cX11_isWet 8 = .ok (.iaload, 1) := by decide +kernel
theorem dX11_isWet_9 : decode cX11_isWet 9 = .ok (.if_icmp .ge 31, 3) := by decide +kernel
theorem dX11_isWet_12 : decode cX11_isWet 12 = .ok (.aload_n 0, 1) := by decide +kernel
theorem dX11_isWet_13 : decode cX11_isWet 13 = .ok (.getfield 274, 3) := by decide +kernel
theorem dX11_isWet_16 : decode cX11_isWet 16 = .ok (.ifCond .ne 24, 3) := by decide +kernel
theorem dX11_isWet_19 : decode cX11_isWet 19 = .ok (.aload_n 0, 1) := by decide +kernel
theorem dX11_isWet_20 : decode cX11_isWet 20 = .ok (.getfield 26, 3) := by decide +kernel
theorem dX11_isWet_23 : decode cX11_isWet 23 = .ok (.iload_n 1, 1) := by decide +kernel
theorem dX11_isWet_24 : decode cX11_isWet 24 = .ok (.iaload, 1) := by decide +kernel
theorem dX11_isWet_25 : decode cX11_isWet 25 = .ok (.aload_n 0, 1) := by decide +kernel
theorem dX11_isWet_26 : decode cX11_isWet 26 = .ok (.getfield 230, 3) := by decide +kernel
theorem dX11_isWet_29 : decode cX11_isWet 29 = .ok (.if_icmp .ne 5, 3) := by decide +kernel
theorem dX11_isWet_32 : decode cX11_isWet 32 = .ok (.iconst 1, 1) := by decide +kernel
theorem dX11_isWet_33 : decode cX11_isWet 33 = .ok (.ireturn, 1) := by decide +kernel
theorem dX11_isWet_34 : decode cX11_isWet 34 = .ok (.iinc 1 1, 3) := by decide +kernel
theorem dX11_isWet_37 : decode cX11_isWet 37 = .ok (.goto (-35), 3) := by decide +kernel
theorem dX11_isWet_40 : decode cX11_isWet 40 = .ok (.iconst 0, 1) := by decide +kernel
theorem dX11_isWet_41 : decode cX11_isWet 41 = .ok (.ireturn, 1) := by decide +kernel
theorem dX11_goesBy_0 : decode cX11_goesBy 0 = .ok (.aload_n 0, 1) := by decide +kernel
theorem dX11_goesBy_1 : decode cX11_goesBy 1 = .ok (.iconst (-1), 1) := by decide +kernel
theorem dX11_goesBy_2 : decode cX11_goesBy 2 = .ok (.putfield 278, 3) := by decide +kernel
theorem dX11_goesBy_5 : decode cX11_goesBy 5 = .ok (.iconst 0, 1) := by decide +kernel
theorem dX11_goesBy_6 : decode cX11_goesBy 6 = .ok (.istore_n 2, 1) := by decide +kernel
theorem dX11_goesBy_7 : decode cX11_goesBy 7 = .ok (.iload_n 2, 1) := by decide +kernel
theorem dX11_goesBy_8 : decode cX11_goesBy 8 = .ok (.aload_n 0, 1) := by decide +kernel
theorem dX11_goesBy_9 : decode cX11_goesBy 9 = .ok (.getfield 204, 3) := by decide +kernel
theorem dX11_goesBy_12 : decode cX11_goesBy 12 = .ok (.if_icmp .ge 16, 3) := by decide +kernel
theorem dX11_goesBy_15 : decode cX11_goesBy 15 = .ok (.aload_n 0, 1) := by decide +kernel
theorem dX11_goesBy_16 : decode cX11_goesBy 16 = .ok (.getfield 67, 3) := by decide +kernel
theorem dX11_goesBy_19 : decode cX11_goesBy 19 = .ok (.iload_n 2, 1) := by decide +kernel
theorem dX11_goesBy_20 : decode cX11_goesBy 20 = .ok (.iconst 0, 1) := by decide +kernel
theorem dX11_goesBy_21 : decode cX11_goesBy 21 = .ok (.iastore, 1) := by decide +kernel
theorem dX11_goesBy_22 : decode cX11_goesBy 22 = .ok (.iinc 2 1, 3) := by decide +kernel
theorem dX11_goesBy_25 : decode cX11_goesBy 25 = .ok (.goto (-18), 3) := by decide +kernel
theorem dX11_goesBy_28 : decode cX11_goesBy 28 = .ok (.iconst 0, 1) := by decide +kernel
theorem dX11_goesBy_29 : decode cX11_goesBy 29 = .ok (.istore_n 2, 1) := by decide +kernel
theorem dX11_goesBy_30 : decode cX11_goesBy 30 = .ok (.iload_n 2, 1) := by decide +kernel
theorem dX11_goesBy_31 : decode cX11_goesBy 31 = .ok (.aload_n 0, 1) := by decide +kernel
theorem dX11_goesBy_32 : decode cX11_goesBy 32 = .ok (.getfield 20, 3) := by decide +kernel
theorem dX11_goesBy_35 : decode cX11_goesBy 35 = .ok (.iconst 3, 1) := by decide +kernel
theorem dX11_goesBy_36 : decode cX11_goesBy 36 = .ok (.iaload, 1) := by decide +kernel
theorem dX11_goesBy_37 : decode cX11_goesBy 37 = .ok (.if_icmp .ge 209, 3) := by decide +kernel
theorem dX11_goesBy_40 : decode cX11_goesBy 40 = .ok (.aload_n 0, 1) := by decide +kernel
theorem dX11_goesBy_41 : decode cX11_goesBy 41 = .ok (.iload_n 2, 1) := by decide +kernel
theorem dX11_goesBy_42 : decode cX11_goesBy 42 = .ok (.invokevirtual 264, 3) := by decide +kernel
theorem dX11_goesBy_45 : decode cX11_goesBy 45 = .ok (.ifCond .eq 195, 3) := by decide +kernel
theorem dX11_goesBy_48 : decode cX11_goesBy 48 = .ok (.aload_n 0, 1) := by decide +kernel
theorem dX11_goesBy_49 : decode cX11_goesBy 49 = .ok (.iload_n 2, 1) := by decide +kernel
theorem dX11_goesBy_50 : decode cX11_goesBy 50 = .ok (.invokevirtual 281, 3) := by decide +kernel
theorem dX11_goesBy_53 : decode cX11_goesBy 53 = .ok (.ifCond .ne 6, 3) := by decide +kernel
theorem dX11_goesBy_56 : decode cX11_goesBy 56 = .ok (.goto 184, 3) := by decide +kernel
theorem dX11_goesBy_59 : decode cX11_goesBy 59 = .ok (.aload_n 0, 1) := by decide +kernel
theorem dX11_goesBy_60 : decode cX11_goesBy 60 = .ok (.aload_n 0, 1) := by decide +kernel
theorem dX11_goesBy_61 : decode cX11_goesBy 61 = .ok (.getfield 46, 3) := by decide +kernel
theorem dX11_goesBy_64 : decode cX11_goesBy 64 = .ok (.iload_n 2, 1) := by decide +kernel
theorem dX11_goesBy_65 : decode cX11_goesBy 65 = .ok (.aaload, 1) := by decide +kernel
theorem dX11_goesBy_66 : decode cX11_goesBy 66 = .ok (.iconst 0, 1) := by decide +kernel
theorem dX11_goesBy_67 : decode cX11_goesBy 67 = .ok (.iaload, 1) := by decide +kernel
theorem dX11_goesBy_68 : decode cX11_goesBy 68 = .ok (.aload_n 0, 1) := by decide +kernel
theorem dX11_goesBy_69 : decode cX11_goesBy 69 = .ok (.getfield 46, 3) := by decide +kernel
theorem dX11_goesBy_72 : decode cX11_goesBy 72 = .ok (.iload_n 2, 1) := by decide +kernel
theorem dX11_goesBy_73 : decode cX11_goesBy 73 = .ok (.aaload, 1) := by decide +kernel
theorem dX11_goesBy_74 : decode cX11_goesBy 74 = .ok (.iconst 1, 1) := by decide +kernel
theorem dX11_goesBy_75 : decode cX11_goesBy 75 = .ok (.iaload, 1) := by decide +kernel
theorem dX11_goesBy_76 : decode cX11_goesBy 76 = .ok (.iload_n 2, 1) := by decide +kernel
theorem dX11_goesBy_77 : decode cX11_goesBy 77 = .ok (.aload_n 0, 1) := by decide +kernel
theorem dX11_goesBy_78 : decode cX11_goesBy 78 = .ok (.getfield 70, 3) := by decide +kernel
theorem dX11_goesBy_81 : decode cX11_goesBy 81 = .ok (.if_icmp .ne 7, 3) := by decide +kernel
theorem dX11_goesBy_84 : decode cX11_goesBy 84 = .ok (.iconst 0, 1) := by decide +kernel
theorem dX11_goesBy_85 : decode cX11_goesBy 85 = .ok (.goto 4, 3) := by decide +kernel
theorem dX11_goesBy_88 : decode cX11_goesBy 88 = .ok (.iload_n 1, 1) := by decide +kernel
theorem dX11_goesBy_89 : decode cX11_goesBy 89 = .ok (.invokevirtual 258, 3) := by decide +kernel
theorem dX11_goesBy_92 : decode cX11_goesBy 92 = .ok (.istore_n 3, 1) := by decide +kernel
theorem dX11_goesBy_93 : decode cX11_goesBy 93 = .ok (.iload_n 2, 1) := by decide +kernel
theorem dX11_goesBy_94 : decode cX11_goesBy 94 = .ok (.aload_n 0, 1) := by decide +kernel
theorem dX11_goesBy_95 : decode cX11_goesBy 95 = .ok (.getfield 88, 3) := by decide +kernel
theorem dX11_goesBy_98 : decode cX11_goesBy 98 = .ok (.if_icmp .eq 27, 3) := by decide +kernel
theorem dX11_goesBy_101 : decode cX11_goesBy 101 = .ok (.aload_n 0, 1) := by decide +kernel
theorem dX11_goesBy_102 : decode cX11_goesBy 102 = .ok (.dup, 1) := by decide +kernel
theorem dX11_goesBy_103 : decode cX11_goesBy 103 = .ok (.getfield 239, 3) := by decide +kernel
theorem dX11_goesBy_106 : decode cX11_goesBy 106 = .ok (.iload_n 3, 1) := by decide +kernel
theorem dX11_goesBy_107 : decode cX11_goesBy 107 = .ok (.ifCond .eq 11, 3) := by decide +kernel
theorem dX11_goesBy_110 : decode cX11_goesBy 110 = .ok (.aload_n 0, 1) := by decide +kernel
theorem dX11_goesBy_111 : decode cX11_goesBy 111 = .ok (.getfield 220, 3) := by decide +kernel
theorem dX11_goesBy_114 : decode cX11_goesBy 114 = .ok (.i2l, 1) := by decide +kernel
theorem dX11_goesBy_115 : decode cX11_goesBy 115 = .ok (.goto 6, 3) := by decide +kernel
theorem dX11_goesBy_118 : decode cX11_goesBy 118 = .ok (.ldc2_w 284, 3) := by decide +kernel
theorem dX11_goesBy_121 : decode cX11_goesBy 121 = .ok (.ladd, 1) := by decide +kernel
theorem dX11_goesBy_122 : decode cX11_goesBy 122 = .ok (.putfield 239, 3) := by decide +kernel
theorem dX11_goesBy_125 : decode cX11_goesBy 125 = .ok (.iload_n 3, 1) := by decide +kernel
theorem dX11_goesBy_126 : decode cX11_goesBy 126 = .ok (.ifCond .ne 36, 3) := by decide +kernel
theorem dX11_goesBy_129 : decode cX11_goesBy 129 = .ok (.aload_n 0, 1) := by decide +kernel
theorem dX11_goesBy_130 : decode cX11_goesBy 130 = .ok (.dup, 1) := by decide +kernel
theorem dX11_goesBy_131 : decode cX11_goesBy 131 = .ok (.getfield 246, 3) := by decide +kernel
theorem dX11_goesBy_134 : decode cX11_goesBy 134 = .ok (.iconst 1, 1) := by decide +kernel
theorem dX11_goesBy_135 : decode cX11_goesBy 135 = .ok (.iadd, 1) := by decide +kernel
theorem dX11_goesBy_136 : decode cX11_goesBy 136 = .ok (.putfield 246, 3) := by decide +kernel
theorem dX11_goesBy_139 : decode cX11_goesBy 139 = .ok (.aload_n 0, 1) := by decide +kernel
theorem dX11_goesBy_140 : decode cX11_goesBy 140 = .ok (.aload_n 0, 1) := by decide +kernel
theorem dX11_goesBy_141 : decode cX11_goesBy 141 = .ok (.getfield 278, 3) := by decide +kernel
theorem dX11_goesBy_144 : decode cX11_goesBy 144 = .ok (.iconst (-1), 1) := by decide +kernel
theorem dX11_goesBy_145 : decode cX11_goesBy 145 = .ok (.if_icmp .ne 7, 3) := by decide +kernel
theorem dX11_goesBy_148 : decode cX11_goesBy 148 = .ok (.iload_n 2, 1) := by decide +kernel
theorem dX11_goesBy_149 : decode cX11_goesBy 149 = .ok (.goto 7, 3) := by decide +kernel
theorem dX11_goesBy_152 : decode cX11_goesBy 152 = .ok (.aload_n 0, 1) := by decide +kernel
theorem dX11_goesBy_153 : decode cX11_goesBy 153 = .ok (.getfield 278, 3) := by decide +kernel
theorem dX11_goesBy_156 : decode cX11_goesBy 156 = .ok (.putfield 278, 3) := by decide +kernel
theorem dX11_goesBy_159 : decode cX11_goesBy 159 = .ok (.goto 81, 3) := by decide +kernel
theorem dX11_goesBy_162 : decode cX11_goesBy 162 = .ok (.aload_n 0, 1) := by decide +kernel
theorem dX11_goesBy_163 : decode cX11_goesBy 163 = .ok (.dup, 1) := by decide +kernel
theorem dX11_goesBy_164 : decode cX11_goesBy 164 = .ok (.getfield 249, 3) := by decide +kernel
theorem dX11_goesBy_167 : decode cX11_goesBy 167 = .ok (.iconst 1, 1) := by decide +kernel
theorem dX11_goesBy_168 : decode cX11_goesBy 168 = .ok (.iadd, 1) := by decide +kernel
theorem dX11_goesBy_169 : decode cX11_goesBy 169 = .ok (.putfield 249, 3) := by decide +kernel
theorem dX11_goesBy_172 : decode cX11_goesBy 172 = .ok (.iconst 0, 1) := by decide +kernel
theorem dX11_goesBy_173 : decode cX11_goesBy 173 = .ok (.istore 4, 2) := by decide +kernel
theorem dX11_goesBy_175 : decode cX11_goesBy 175 = .ok (.iload 4, 2) := by decide +kernel
theorem dX11_goesBy_177 : decode cX11_goesBy 177 = .ok (.aload_n 0, 1) := by decide +kernel
theorem dX11_goesBy_178 : decode cX11_goesBy 178 = .ok (.getfield 217, 3) := by decide +kernel
theorem dX11_goesBy_181 : decode cX11_goesBy 181 = .ok (.if_icmp .ge 59, 3) := by decide +kernel
theorem dX11_goesBy_184 : decode cX11_goesBy 184 = .ok (.aload_n 0, 1) := by decide +kernel
theorem dX11_goesBy_185 : decode cX11_goesBy 185 = .ok (.getfield 67, 3) := by decide +kernel
theorem dX11_goesBy_188 : decode cX11_goesBy 188 = .ok (.aload_n 0, 1) := by decide +kernel
theorem dX11_goesBy_189 : decode cX11_goesBy 189 = .ok (.getfield 85, 3) := by decide +kernel
theorem dX11_goesBy_192 : decode cX11_goesBy 192 = .ok (.iload 4, 2) := by decide +kernel
theorem dX11_goesBy_194 : decode cX11_goesBy 194 = .ok (.iaload, 1) := by decide +kernel
theorem dX11_goesBy_195 : decode cX11_goesBy 195 = .ok (.dup2, 1) := by decide +kernel
theorem dX11_goesBy_196 : decode cX11_goesBy 196 = .ok (.iaload, 1) := by decide +kernel
theorem dX11_goesBy_197 : decode cX11_goesBy 197 = .ok (.aload_n 0, 1) := by decide +kernel
theorem dX11_goesBy_198 : decode cX11_goesBy 198 = .ok (.getfield 46, 3) := by decide +kernel
theorem dX11_goesBy_201 : decode cX11_goesBy 201 = .ok (.iload_n 2, 1) := by decide +kernel
theorem dX11_goesBy_202 : decode cX11_goesBy 202 = .ok (.aaload, 1) := by decide +kernel
theorem dX11_goesBy_203 : decode cX11_goesBy 203 = .ok (.iconst 3, 1) := by decide +kernel
theorem dX11_goesBy_204 : decode cX11_goesBy 204 = .ok (.iaload, 1) := by decide +kernel
theorem dX11_goesBy_205 : decode cX11_goesBy 205 = .ok (.iadd, 1) := by decide +kernel
theorem dX11_goesBy_206 : decode cX11_goesBy 206 = .ok (.iastore, 1) := by decide +kernel
theorem dX11_goesBy_207 : decode cX11_goesBy 207 = .ok (.aload_n 0, 1) := by decide +kernel
theorem dX11_goesBy_208 : decode cX11_goesBy 208 = .ok (.dup, 1) := by decide +kernel
theorem dX11_goesBy_209 : decode cX11_goesBy 209 = .ok (.getfield 243, 3) := by decide +kernel
theorem dX11_goesBy_212 : decode cX11_goesBy 212 = .ok (.aload_n 0, 1) := by decide +kernel
theorem dX11_goesBy_213 : decode cX11_goesBy 213 = .ok (.getfield 214, 3) := by decide +kernel
theorem dX11_goesBy_216 : decode cX11_goesBy 216 = .ok (.aload_n 0, 1) := by decide +kernel
theorem dX11_goesBy_217 : decode cX11_goesBy 217 = .ok (.getfield 61, 3) := by decide +kernel
theorem dX11_goesBy_220 : decode cX11_goesBy 220 = .ok (.aload_n 0, 1) := by decide +kernel
theorem dX11_goesBy_221 : decode cX11_goesBy 221 = .ok (.getfield 85, 3) := by decide +kernel
theorem dX11_goesBy_224 : decode cX11_goesBy 224 = .ok (.iload 4, 2) := by decide +kernel
theorem dX11_goesBy_226 : decode cX11_goesBy 226 = .ok (.iaload, 1) := by decide +kernel
theorem dX11_goesBy_227 : decode cX11_goesBy 227 = .ok (.iaload, 1) := by decide +kernel
theorem dX11_goesBy_228 : decode cX11_goesBy 228 = .ok (.imul, 1) := by decide +kernel
theorem dX11_goesBy_229 : decode cX11_goesBy 229 = .ok (.i2l, 1) := by decide +kernel
theorem dX11_goesBy_230 : decode cX11_goesBy 230 = .ok (.ladd, 1) := by decide +kernel
theorem dX11_goesBy_231 : decode cX11_goesBy 231 = .ok (.putfield 243, 3) := by decide +kernel
theorem dX11_goesBy_234 : decode cX11_goesBy 234 = .ok (.iinc 4 1, 3) := by decide +kernel
theorem dX11_goesBy_237 : decode cX11_goesBy 237 = .ok (.goto (-62), 3) := by decide +kernel
theorem dX11_goesBy_240 : decode cX11_goesBy 240 = .ok (.iinc 2 1, 3) := by decide +kernel
theorem dX11_goesBy_243 : decode cX11_goesBy 243 = .ok (.goto (-213), 3) := by decide +kernel
theorem dX11_goesBy_246 : decode cX11_goesBy 246 = .ok (.aload_n 0, 1) := by decide +kernel
theorem dX11_goesBy_247 : decode cX11_goesBy 247 = .ok (.invokevirtual 286, 3) := by decide +kernel
theorem dX11_goesBy_250 : decode cX11_goesBy 250 = .ok (.istore_n 2, 1) := by decide +kernel
theorem dX11_goesBy_251 : decode cX11_goesBy 251 = .ok (.iconst 0, 1) := by decide +kernel
theorem dX11_goesBy_252 : decode cX11_goesBy 252 = .ok (.istore_n 3, 1) := by decide +kernel
theorem dX11_goesBy_253 : decode cX11_goesBy 253 = .ok (.iload_n 3, 1) := by decide +kernel
theorem dX11_goesBy_254 : decode cX11_goesBy 254 = .ok (.aload_n 0, 1) := by decide +kernel
theorem dX11_goesBy_255 : decode cX11_goesBy 255 = .ok (.getfield 204, 3) := by decide +kernel
theorem dX11_goesBy_258 : decode cX11_goesBy 258 = .ok (.if_icmp .ge 124, 3) := by decide +kernel
theorem dX11_goesBy_261 : decode cX11_goesBy 261 = .ok (.aload_n 0, 1) := by decide +kernel
theorem dX11_goesBy_262 : decode cX11_goesBy 262 = .ok (.getfield 67, 3) := by decide +kernel
theorem dX11_goesBy_265 : decode cX11_goesBy 265 = .ok (.iload_n 3, 1) := by decide +kernel
theorem dX11_goesBy_266 : decode cX11_goesBy 266 = .ok (.iaload, 1) := by decide +kernel
theorem dX11_goesBy_267 : decode cX11_goesBy 267 = .ok (.iload_n 2, 1) := by decide +kernel
theorem dX11_goesBy_268 : decode cX11_goesBy 268 = .ok (.ifCond .eq 7, 3) := by decide +kernel
theorem dX11_goesBy_271 : decode cX11_goesBy 271 = .ok (.iconst 1, 1) := by decide +kernel
theorem dX11_goesBy_272 : decode cX11_goesBy 272 = .ok (.goto 4, 3) := by decide +kernel
theorem dX11_goesBy_275 : decode cX11_goesBy 275 = .ok (.iconst 0, 1) := by decide +kernel
theorem dX11_goesBy_276 : decode cX11_goesBy 276 = .ok (.iadd, 1) := by decide +kernel
theorem dX11_goesBy_277 : decode cX11_goesBy 277 = .ok (.istore 4, 2) := by decide +kernel
theorem dX11_goesBy_279 : decode cX11_goesBy 279 = .ok (.aload_n 0, 1) := by decide +kernel
theorem dX11_goesBy_280 : decode cX11_goesBy 280 = .ok (.getfield 61, 3) := by decide +kernel
theorem dX11_goesBy_283 : decode cX11_goesBy 283 = .ok (.iload_n 3, 1) := by decide +kernel
theorem dX11_goesBy_284 : decode cX11_goesBy 284 = .ok (.aload_n 0, 1) := by decide +kernel
theorem dX11_goesBy_285 : decode cX11_goesBy 285 = .ok (.getfield 61, 3) := by decide +kernel
theorem dX11_goesBy_288 : decode cX11_goesBy 288 = .ok (.iload_n 3, 1) := by decide +kernel
theorem dX11_goesBy_289 : decode cX11_goesBy 289 = .ok (.iaload, 1) := by decide +kernel
theorem dX11_goesBy_290 : decode cX11_goesBy 290 = .ok (.iload 4, 2) := by decide +kernel
theorem dX11_goesBy_292 : decode cX11_goesBy 292 = .ok (.iadd, 1) := by decide +kernel
theorem dX11_goesBy_293 : decode cX11_goesBy 293 = .ok (.bipush 99, 2) := by decide +kernel
theorem dX11_goesBy_295 : decode cX11_goesBy 295 = .ok (.if_icmp .le 8, 3) := by decide +kernel
theorem dX11_goesBy_298 : decode cX11_goesBy 298 = .ok (.bipush 99, 2) := by decide +kernel
theorem dX11_goesBy_300 : decode cX11_goesBy 300 = .ok (.goto 12, 3) := by decide +kernel
theorem dX11_goesBy_303 : decode cX11_goesBy 303 = .ok (.aload_n 0, 1) := by decide +kernel
theorem dX11_goesBy_304 : decode cX11_goesBy 304 = .ok (.getfield 61, 3) := by decide +kernel
theorem dX11_goesBy_307 : decode cX11_goesBy 307 = .ok (.iload_n 3, 1) := by decide +kernel
theorem dX11_goesBy_308 : decode cX11_goesBy 308 = .ok (.iaload, 1) := by decide +kernel
theorem dX11_goesBy_309 : decode cX11_goesBy 309 = .ok (.iload 4, 2) := by decide +kernel
theorem dX11_goesBy_311 : decode cX11_goesBy 311 = .ok (.iadd, 1) := by decide +kernel
theorem dX11_goesBy_312 : decode cX11_goesBy 312 = .ok (.iastore, 1) := by decide +kernel
theorem dX11_goesBy_313 : decode cX11_goesBy 313 = .ok (.aload_n 0, 1) := by decide +kernel
theorem dX11_goesBy_314 : decode cX11_goesBy 314 = .ok (.getfield 64, 3) := by decide +kernel
theorem dX11_goesBy_317 : decode cX11_goesBy 317 = .ok (.iload_n 3, 1) := by decide +kernel
theorem dX11_goesBy_318 : decode cX11_goesBy 318 = .ok (.iload 4, 2) := by decide +kernel
theorem dX11_goesBy_320 : decode cX11_goesBy 320 = .ok (.ifCond .le 7, 3) := by decide +kernel
theorem dX11_goesBy_323 : decode cX11_goesBy 323 = .ok (.iconst 0, 1) := by decide +kernel
theorem dX11_goesBy_324 : decode cX11_goesBy 324 = .ok (.goto 31, 3) := by decide +kernel
theorem dX11_goesBy_327 : decode cX11_goesBy 327 = .ok (.aload_n 0, 1) := by decide +kernel
theorem dX11_goesBy_328 : decode cX11_goesBy 328 = .ok (.getfield 64, 3) := by decide +kernel
theorem dX11_goesBy_331 : decode cX11_goesBy 331 = .ok (.iload_n 3, 1) := by decide +kernel
theorem dX11_goesBy_332 : decode cX11_goesBy 332 = .ok (.iaload, 1) := by decide +kernel
theorem dX11_goesBy_333 : decode cX11_goesBy 333 = .ok (.aload_n 0, 1) := by decide +kernel
theorem dX11_goesBy_334 : decode cX11_goesBy 334 = .ok (.getfield 227, 3) := by decide +kernel
theorem dX11_goesBy_337 : decode cX11_goesBy 337 = .ok (.if_icmp .ge 14, 3) := by decide +kernel
theorem dX11_goesBy_340 : decode cX11_goesBy 340 = .ok (.aload_n 0, 1) := by decide +kernel
theorem dX11_goesBy_341 : decode cX11_goesBy 341 = .ok (.getfield 64, 3) := by decide +kernel
theorem dX11_goesBy_344 : decode cX11_goesBy 344 = .ok (.iload_n 3, 1) := by decide +kernel
theorem dX11_goesBy_345 : decode cX11_goesBy 345 = .ok (.iaload, 1) := by decide +kernel
theorem dX11_goesBy_346 : decode cX11_goesBy 346 = .ok (.iconst 1, 1) := by decide +kernel
theorem dX11_goesBy_347 : decode cX11_goesBy 347 = .ok (.iadd, 1) := by decide +kernel
theorem dX11_goesBy_348 : decode cX11_goesBy 348 = .ok (.goto 7, 3) := by decide +kernel
theorem dX11_goesBy_351 : decode cX11_goesBy 351 = .ok (.aload_n 0, 1) := by decide +kernel
theorem dX11_goesBy_352 : decode cX11_goesBy 352 = .ok (.getfield 227, 3) := by decide +kernel
theorem dX11_goesBy_355 : decode cX11_goesBy 355 = .ok (.iastore, 1) := by decide +kernel
theorem dX11_goesBy_356 : decode cX11_goesBy 356 = .ok (.aload_n 0, 1) := by decide +kernel
theorem dX11_goesBy_357 : decode cX11_goesBy 357 = .ok (.getfield 64, 3) := by decide +kernel
theorem dX11_goesBy_360 : decode cX11_goesBy 360 = .ok (.iload_n 3, 1) := by decide +kernel
theorem dX11_goesBy_361 : decode cX11_goesBy 361 = .ok (.iaload, 1) := by decide +kernel
theorem dX11_goesBy_362 : decode cX11_goesBy 362 = .ok (.aload_n 0, 1) := by decide +kernel
theorem dX11_goesBy_363 : decode cX11_goesBy 363 = .ok (.getfield 227, 3) := by decide +kernel
theorem dX11_goesBy_366 : decode cX11_goesBy 366 = .ok (.if_icmp .lt 10, 3) := by decide +kernel
theorem dX11_goesBy_369 : decode cX11_goesBy 369 = .ok (.aload_n 0, 1) := by decide +kernel
theorem dX11_goesBy_370 : decode cX11_goesBy 370 = .ok (.getfield 61, 3) := by decide +kernel
theorem dX11_goesBy_373 : decode cX11_goesBy 373 = .ok (.iload_n 3, 1) := by decide +kernel
theorem dX11_goesBy_374 : decode cX11_goesBy 374 = .ok (.iconst 0, 1) := by decide +kernel
theorem dX11_goesBy_375 : decode cX11_goesBy 375 = .ok (.iastore, 1) := by decide +kernel
theorem dX11_goesBy_376 : decode cX11_goesBy 376 = .ok (.iinc 3 1, 3) := by decide +kernel
theorem dX11_goesBy_379 : decode cX11_goesBy 379 = .ok (.goto (-126), 3) := by decide +kernel
theorem dX11_goesBy_382 : decode cX11_goesBy 382 = .ok (.aload_n 0, 1) := by decide +kernel
theorem dX11_goesBy_383 : decode cX11_goesBy 383 = .ok (.dup, 1) := by decide +kernel
theorem dX11_goesBy_384 : decode cX11_goesBy 384 = .ok (.getfield 230, 3) := by decide +kernel
theorem dX11_goesBy_387 : decode cX11_goesBy 387 = .ok (.iconst 1, 1) := by decide +kernel
theorem dX11_goesBy_388 : decode cX11_goesBy 388 = .ok (.iadd, 1) := by decide +kernel
theorem dX11_goesBy_389 : decode cX11_goesBy 389 = .ok (.putfield 230, 3) := by decide +kernel
theorem dX11_goesBy_392 : decode cX11_goesBy 392 = .ok (.aload_n 0, 1) := by decide +kernel
theorem dX11_goesBy_393 : decode cX11_goesBy 393 = .ok (.dup, 1) := by decide +kernel
theorem dX11_goesBy_394 : decode cX11_goesBy 394 = .ok (.getfield 236, 3) := by decide +kernel
theorem dX11_goesBy_397 : decode cX11_goesBy 397 = .ok (.iconst 1, 1) := by decide +kernel
theorem dX11_goesBy_398 : decode cX11_goesBy 398 = .ok (.iadd, 1) := by decide +kernel
theorem dX11_goesBy_399 : decode cX11_goesBy 399 = .ok (.putfield 236, 3) := by decide +kernel
theorem dX11_goesBy_402 : decode cX11_goesBy 402 = .ok (.return_, 1) := by decide +kernel
theorem dX11_pastUse_0 : decode cX11_pastUse 0 = .ok (.iconst 0, 1) := by decide +kernel
theorem dX11_pastUse_1 : decode cX11_pastUse 1 = .ok (.istore_n 1, 1) := by decide +kernel
theorem dX11_pastUse_2 : decode cX11_pastUse 2 = .ok (.iload_n 1, 1) := by decide +kernel
theorem dX11_pastUse_3 : decode cX11_pastUse 3 = .ok (.aload_n 0, 1) := by decide +kernel
theorem dX11_pastUse_4 : decode cX11_pastUse 4 = .ok (.getfield 204, 3) := by decide +kernel
theorem dX11_pastUse_7 : decode cX11_pastUse 7 = .ok (.if_icmp .ge 28, 3) := by decide +kernel
theorem dX11_pastUse_10 : decode cX11_pastUse 10 = .ok (.aload_n 0, 1) := by decide +kernel
theorem dX11_pastUse_11 : decode cX11_pastUse 11 = .ok (.getfield 61, 3) := by decide +kernel
theorem dX11_pastUse_14 : decode cX11_pastUse 14 = .ok (.iload_n 1, 1) := by decide +kernel
theorem dX11_pastUse_15 : decode cX11_pastUse 15 = .ok (.iaload, 1) := by decide +kernel
theorem dX11_pastUse_16 : decode cX11_pastUse 16 = .ok (.aload_n 0, 1) := by decide +kernel
theorem dX11_pastUse_17 : decode cX11_pastUse 17 = .ok (.getfield 34, 3) := by decide +kernel
theorem dX11_pastUse_20 : decode cX11_pastUse 20 = .ok (.iload_n 1, 1) := by decide +kernel
theorem dX11_pastUse_21 : decode cX11_pastUse 21 = .ok (.aaload, 1) := by decide +kernel
theorem dX11_pastUse_22 : decode cX11_pastUse 22 = .ok (.iconst 4, 1) := by decide +kernel
theorem dX11_pastUse_23 : decode cX11_pastUse 23 = .ok (.iaload, 1) := by decide +kernel
theorem dX11_pastUse_24 : decode cX11_pastUse 24 = .ok (.if_icmp .le 5, 3) := by decide +kernel
theorem dX11_pastUse_27 : decode cX11_pastUse 27 = .ok (.iload_n 1, 1) := by decide +kernel
theorem dX11_pastUse_28 : decode cX11_pastUse 28 = .ok (.ireturn, 1) := by decide +kernel
theorem dX11_pastUse_29 : decode cX11_pastUse 29 = .ok (.iinc 1 1, 3) := by decide +kernel
theorem dX11_pastUse_32 : decode cX11_pastUse 32 = .ok (.goto (-30), 3) := by decide +kernel
theorem dX11_pastUse_35 : decode cX11_pastUse 35 = .ok (.iconst (-1), 1) := by decide +kernel
theorem dX11_pastUse_36 : decode cX11_pastUse 36 = .ok (.ireturn, 1) := by decide +kernel
theorem dX11_goes_0 : decode cX11_goes 0 = .ok (.iconst 0, 1) := by decide +kernel
theorem dX11_goes_1 : decode cX11_goes 1 = .ok (.istore_n 3, 1) := by decide +kernel
theorem dX11_goes_2 : decode cX11_goes 2 = .ok (.iload_n 3, 1) := by decide +kernel
theorem dX11_goes_3 : decode cX11_goes 3 = .ok (.iload_n 2, 1) := by decide +kernel
theorem dX11_goes_4 : decode cX11_goes 4 = .ok (.if_icmp .ge 18, 3) := by decide +kernel
theorem dX11_goes_7 : decode cX11_goes 7 = .ok (.aload_n 0, 1) := by decide +kernel
theorem dX11_goes_8 : decode cX11_goes 8 = .ok (.aload_n 0, 1) := by decide +kernel
theorem dX11_goes_9 : decode cX11_goes 9 = .ok (.iload_n 1, 1) := by decide +kernel
theorem dX11_goes_10 : decode cX11_goes 10 = .ok (.invokevirtual 290, 3) := by decide +kernel
theorem dX11_goes_13 : decode cX11_goes 13 = .ok (.invokevirtual 293, 3) := by decide +kernel
theorem dX11_goes_16 : decode cX11_goes 16 = .ok (.iinc 3 1, 3) := by decide +kernel
theorem dX11_goes_19 : decode cX11_goes 19 = .ok (.goto (-17), 3) := by decide +kernel
theorem dX11_goes_22 : decode cX11_goes 22 = .ok (.return_, 1) := by decide +kernel
theorem dX11_stands_0 : decode cX11_stands 0 = .ok (.aload_n 0, 1) := by decide +kernel
theorem dX11_stands_1 : decode cX11_stands 1 = .ok (.aload_n 0, 1) := by decide +kernel
theorem dX11_stands_2 : decode cX11_stands 2 = .ok (.getfield 230, 3) := by decide +kernel
theorem dX11_stands_5 : decode cX11_stands 5 = .ok (.putfield 188, 3) := by decide +kernel
theorem dX11_stands_8 : decode cX11_stands 8 = .ok (.iconst 0, 1) := by decide +kernel
theorem dX11_stands_9 : decode cX11_stands 9 = .ok (.istore_n 1, 1) := by decide +kernel
theorem dX11_stands_10 : decode cX11_stands 10 = .ok (.iload_n 1, 1) := by decide +kernel
theorem dX11_stands_11 : decode cX11_stands 11 = .ok (.aload_n 0, 1) := by decide +kernel
theorem dX11_stands_12 : decode cX11_stands 12 = .ok (.getfield 20, 3) := by decide +kernel
theorem dX11_stands_15 : decode cX11_stands 15 = .ok (.iconst 1, 1) := by decide +kernel
theorem dX11_stands_16 : decode cX11_stands 16 = .ok (.iaload, 1) := by decide +kernel
theorem dX11_stands_17 : decode cX11_stands 17 = .ok (.if_icmp .ge 33, 3) := by decide +kernel
theorem dX11_stands_20 : decode cX11_stands 20 = .ok (.aload_n 0, 1) := by decide +kernel
theorem dX11_stands_21 : decode cX11_stands 21 = .ok (.getfield 49, 3) := by decide +kernel
theorem dX11_stands_24 : decode cX11_stands 24 = .ok (.iload_n 1, 1) := by decide +kernel
theorem dX11_stands_25 : decode cX11_stands 25 = .ok (.aload_n 0, 1) := by decide +kernel
theorem dX11_stands_26 : decode cX11_stands 26 = .ok (.getfield 61, 3) := by decide +kernel
theorem dX11_stands_29 : decode cX11_stands 29 = .ok (.iload_n 1, 1) := by decide +kernel
theorem dX11_stands_30 : decode cX11_stands 30 = .ok (.iaload, 1) := by decide +kernel
theorem dX11_stands_31 : decode cX11_stands 31 = .ok (.iastore, 1) := by decide +kernel
theorem dX11_stands_32 : decode cX11_stands 32 = .ok (.aload_n 0, 1) := by decide +kernel
theorem dX11_stands_33 : decode cX11_stands 33 = .ok (.getfield 52, 3) := by decide +kernel
theorem dX11_stands_36 : decode cX11_stands 36 = .ok (.iload_n 1, 1) := by decide +kernel
theorem dX11_stands_37 : decode cX11_stands 37 = .ok (.aload_n 0, 1) := by decide +kernel
theorem dX11_stands_38 : decode cX11_stands 38 = .ok (.getfield 64, 3) := by decide +kernel
theorem dX11_stands_41 : decode cX11_stands 41 = .ok (.iload_n 1, 1) := by decide +kernel
theorem dX11_stands_42 : decode cX11_stands 42 = .ok (.iaload, 1) := by decide +kernel
theorem dX11_stands_43 : decode cX11_stands 43 = .ok (.iastore, 1) := by decide +kernel
theorem dX11_stands_44 : decode cX11_stands 44 = .ok (.iinc 1 1, 3) := by decide +kernel
theorem dX11_stands_47 : decode cX11_stands 47 = .ok (.goto (-37), 3) := by decide +kernel
theorem dX11_stands_50 : decode cX11_stands 50 = .ok (.return_, 1) := by decide +kernel
theorem dX11_shuts_0 : decode cX11_shuts 0 = .ok (.aload_n 0, 1) := by decide +kernel
theorem dX11_shuts_1 : decode cX11_shuts 1 = .ok (.iconst 0, 1) := by decide +kernel
theorem dX11_shuts_2 : decode cX11_shuts 2 = .ok (.putfield 104, 3) := by decide +kernel
theorem dX11_shuts_5 : decode cX11_shuts 5 = .ok (.aload_n 0, 1) := by decide +kernel
theorem dX11_shuts_6 : decode cX11_shuts 6 = .ok (.iload_n 1, 1) := by decide +kernel
theorem dX11_shuts_7 : decode cX11_shuts 7 = .ok (.ifCond .eq 17, 3) := by decide +kernel
theorem dX11_shuts_10 : decode cX11_shuts 10 = .ok (.iload_n 1, 1) := by decide +kernel
theorem dX11_shuts_11 : decode cX11_shuts 11 = .ok (.iconst 2, 1) := by decide +kernel
theorem dX11_shuts_12 : decode cX11_shuts 12 = .ok (.if_icmp .eq 12, 3) := by decide +kernel
theorem dX11_shuts_15 : decode cX11_shuts 15 = .ok (.iload_n 1, 1) := by decide +kernel
theorem dX11_shuts_16 : decode cX11_shuts 16 = .ok (.iconst 3, 1) := by decide +kernel
theorem dX11_shuts_17 : decode cX11_shuts 17 = .ok (.if_icmp .eq 7, 3) := by decide +kernel
theorem dX11_shuts_20 : decode cX11_shuts 20 = .ok (.iconst 1, 1) := by decide +kernel
theorem dX11_shuts_21 : decode cX11_shuts 21 = .ok (.goto 4, 3) := by decide +kernel
theorem dX11_shuts_24 : decode cX11_shuts 24 = .ok (.iconst 0, 1) := by decide +kernel
theorem dX11_shuts_25 : decode cX11_shuts 25 = .ok (.iconst 1, 1) := by decide +kernel
theorem dX11_shuts_26 : decode cX11_shuts 26 = .ok (.invokevirtual 181, 3) := by decide +kernel
theorem dX11_shuts_29 : decode cX11_shuts 29 = .ok (.ifCond .eq 5, 3) := by decide +kernel
theorem dX11_shuts_32 : decode cX11_shuts 32 = .ok (.iconst 0, 1) := by decide +kernel
theorem dX11_shuts_33 : decode cX11_shuts 33 = .ok (.ireturn, 1) := by decide +kernel
theorem dX11_shuts_34 : decode cX11_shuts 34 = .ok (.aload_n 0, 1) := by decide +kernel
theorem dX11_shuts_35 : decode cX11_shuts 35 = .ok (.invokevirtual 255, 3) := by decide +kernel
theorem dX11_shuts_38 : decode cX11_shuts 38 = .ok (.aload_n 0, 1) := by decide +kernel
theorem dX11_shuts_39 : decode cX11_shuts 39 = .ok (.iload_n 1, 1) := by decide +kernel
theorem dX11_shuts_40 : decode cX11_shuts 40 = .ok (.invokevirtual 290, 3) := by decide +kernel
theorem dX11_shuts_43 : decode cX11_shuts 43 = .ok (.ireturn, 1) := by decide +kernel
theorem dX11_day_0 : decode cX11_day 0 = .ok (.aload_n 0, 1) := by decide +kernel
theorem dX11_day_1 : decode cX11_day 1 = .ok (.iconst 0, 1) := by decide +kernel
theorem dX11_day_2 : decode cX11_day 2 = .ok (.putfield 104, 3) := by decide +kernel
theorem dX11_day_5 : decode cX11_day 5 = .ok (.aload_n 0, 1) := by decide +kernel
theorem dX11_day_6 : decode cX11_day 6 = .ok (.aload_n 0, 1) := by decide +kernel
theorem dX11_day_7 : decode cX11_day 7 = .ok (.iload_n 1, 1) := by decide +kernel
theorem dX11_day_8 : decode cX11_day 8 = .ok (.invokevirtual 252, 3) := by decide +kernel
theorem dX11_day_11 : decode cX11_day 11 = .ok (.ifCond .ne 7, 3) := by decide +kernel
theorem dX11_day_14 : decode cX11_day 14 = .ok (.iconst 1, 1) := by decide +kernel
theorem dX11_day_15 : decode cX11_day 15 = .ok (.goto 4, 3) := by decide +kernel
theorem dX11_day_18 : decode cX11_day 18 = .ok (.iconst 0, 1) := by decide +kernel
theorem dX11_day_19 : decode cX11_day 19 = .ok (.iconst 1, 1) := by decide +kernel
theorem dX11_day_20 : decode cX11_day 20 = .ok (.invokevirtual 181, 3) := by decide +kernel
theorem dX11_day_23 : decode cX11_day 23 = .ok (.ifCond .eq 5, 3) := by decide +kernel
theorem dX11_day_26 : decode cX11_day 26 = .ok (.iconst 0, 1) := by decide +kernel
theorem dX11_day_27 : decode cX11_day 27 = .ok (.ireturn, 1) := by decide +kernel
theorem dX11_day_28 : decode cX11_day 28 = .ok (.aload_n 0, 1) := by decide +kernel
theorem dX11_day_29 : decode cX11_day 29 = .ok (.invokevirtual 255, 3) := by decide +kernel
theorem dX11_day_32 : decode cX11_day 32 = .ok (.aload_n 0, 1) := by decide +kernel
theorem dX11_day_33 : decode cX11_day 33 = .ok (.iload_n 1, 1) := by decide +kernel
theorem dX11_day_34 : decode cX11_day 34 = .ok (.invokevirtual 293, 3) := by decide +kernel
theorem dX11_day_37 : decode cX11_day 37 = .ok (.aload_n 0, 1) := by decide +kernel
theorem dX11_day_38 : decode cX11_day 38 = .ok (.invokevirtual 296, 3) := by decide +kernel
theorem dX11_day_41 : decode cX11_day 41 = .ok (.aload_n 0, 1) := by decide +kernel
theorem dX11_day_42 : decode cX11_day 42 = .ok (.getfield 239, 3) := by decide +kernel
theorem dX11_day_45 : decode cX11_day 45 = .ok (.l2i, 1) := by decide +kernel
theorem dX11_day_46 : decode cX11_day 46 = .ok (.ireturn, 1) := by decide +kernel
theorem dX11_areDays_0 : decode cX11_areDays 0 = .ok (.iload_n 0, 1) := by decide +kernel
theorem dX11_areDays_1 : decode cX11_areDays 1 = .ok (.iconst 1, 1) := by decide +kernel
theorem dX11_areDays_2 : decode cX11_areDays 2 = .ok (.sipush 366, 3) := by decide +kernel
theorem dX11_areDays_5 : decode cX11_areDays 5 = .ok (.invokestatic 138, 3) := by decide +kernel
theorem dX11_areDays_8 : decode cX11_areDays 8 = .ok (.ireturn, 1) := by decide +kernel
theorem dX11_isRule_0 : decode cX11_isRule 0 = .ok (.iload_n 1, 1) := by decide +kernel
theorem dX11_isRule_1 : decode cX11_isRule 1 = .ok (.iconst 0, 1) := by decide +kernel
theorem dX11_isRule_2 : decode cX11_isRule 2 = .ok (.iconst 3, 1) := by decide +kernel
theorem dX11_isRule_3 : decode cX11_isRule 3 = .ok (.invokestatic 138, 3) := by decide +kernel
theorem dX11_isRule_6 : decode cX11_isRule 6 = .ok (.ifCond .eq 14, 3) := by decide +kernel
theorem dX11_isRule_9 : decode cX11_isRule 9 = .ok (.iload_n 2, 1) := by decide +kernel
theorem dX11_isRule_10 : decode cX11_isRule 10 = .ok (.invokestatic 299, 3) := by decide +kernel
theorem dX11_isRule_13 : decode cX11_isRule 13 = .ok (.ifCond .eq 7, 3) := by decide +kernel
theorem dX11_isRule_16 : decode cX11_isRule 16 = .ok (.iconst 1, 1) := by decide +kernel
theorem dX11_isRule_17 : decode cX11_isRule 17 = .ok (.goto 4, 3) := by decide +kernel
theorem dX11_isRule_20 : decode cX11_isRule 20 = .ok (.iconst 0, 1) := by decide +kernel
theorem dX11_isRule_21 : decode cX11_isRule 21 = .ok (.ireturn, 1) := by decide +kernel
theorem dX11_run_0 : decode cX11_run 0 = .ok (.aload_n 0, 1) := by decide +kernel
theorem dX11_run_1 : decode cX11_run 1 = .ok (.iconst 0, 1) := by decide +kernel
theorem dX11_run_2 : decode cX11_run 2 = .ok (.putfield 104, 3) := by decide +kernel
theorem dX11_run_5 : decode cX11_run 5 = .ok (.aload_n 0, 1) := by decide +kernel
theorem dX11_run_6 : decode cX11_run 6 = .ok (.aload_n 0, 1) := by decide +kernel
theorem dX11_run_7 : decode cX11_run 7 = .ok (.iload_n 1, 1) := by decide +kernel
theorem dX11_run_8 : decode cX11_run 8 = .ok (.iload_n 2, 1) := by decide +kernel
theorem dX11_run_9 : decode cX11_run 9 = .ok (.invokevirtual 302, 3) := by decide +kernel
theorem dX11_run_12 : decode cX11_run 12 = .ok (.ifCond .ne 7, 3) := by decide +kernel
theorem dX11_run_15 : decode cX11_run 15 = .ok (.iconst 1, 1) := by decide +kernel
theorem dX11_run_16 : decode cX11_run 16 = .ok (.goto 4, 3) := by decide +kernel
theorem dX11_run_19 : decode cX11_run 19 = .ok (.iconst 0, 1) := by decide +kernel
theorem dX11_run_20 : decode cX11_run 20 = .ok (.iconst 1, 1) := by decide +kernel
theorem dX11_run_21 : decode cX11_run 21 = .ok (.invokevirtual 181, 3) := by decide +kernel
theorem dX11_run_24 : decode cX11_run 24 = .ok (.ifCond .ne 28, 3) := by decide +kernel
theorem dX11_run_27 : decode cX11_run 27 = .ok (.aload_n 0, 1) := by decide +kernel
theorem dX11_run_28 : decode cX11_run 28 = .ok (.iload_n 1, 1) := by decide +kernel
theorem dX11_run_29 : decode cX11_run 29 = .ok (.iconst 1, 1) := by decide +kernel
theorem dX11_run_30 : decode cX11_run 30 = .ok (.if_icmp .ne 14, 3) := by decide +kernel
theorem dX11_run_33 : decode cX11_run 33 = .ok (.aload_n 0, 1) := by decide +kernel
theorem dX11_run_34 : decode cX11_run 34 = .ok (.getfield 191, 3) := by decide +kernel
theorem dX11_run_37 : decode cX11_run 37 = .ok (.ifCond .ne 7, 3) := by decide +kernel
theorem dX11_run_40 : decode cX11_run 40 = .ok (.iconst 1, 1) := by decide +kernel
theorem dX11_run_41 : decode cX11_run 41 = .ok (.goto 4, 3) := by decide +kernel
theorem dX11_run_44 : decode cX11_run 44 = .ok (.iconst 0, 1) := by decide +kernel
theorem dX11_run_45 : decode cX11_run 45 = .ok (.iconst 2, 1) := by decide +kernel
theorem dX11_run_46 : decode cX11_run 46 = .ok (.invokevirtual 181, 3) := by decide +kernel
theorem dX11_run_49 : decode cX11_run 49 = .ok (.ifCond .eq 5, 3) := by decide +kernel
theorem dX11_run_52 : decode cX11_run 52 = .ok (.lconst 0, 1) := by decide +kernel
theorem dX11_run_53 : decode cX11_run 53 = .ok (.lreturn, 1) := by decide +kernel
theorem dX11_run_54 : decode cX11_run 54 = .ok (.aload_n 0, 1) := by decide +kernel
theorem dX11_run_55 : decode cX11_run 55 = .ok (.invokevirtual 255, 3) := by decide +kernel
theorem dX11_run_58 : decode cX11_run 58 = .ok (.aload_n 0, 1) := by decide +kernel
theorem dX11_run_59 : decode cX11_run 59 = .ok (.iload_n 1, 1) := by decide +kernel
theorem dX11_run_60 : decode cX11_run 60 = .ok (.iload_n 2, 1) := by decide +kernel
theorem dX11_run_61 : decode cX11_run 61 = .ok (.invokevirtual 305, 3) := by decide +kernel
theorem dX11_run_64 : decode cX11_run 64 = .ok (.aload_n 0, 1) := by decide +kernel
theorem dX11_run_65 : decode cX11_run 65 = .ok (.invokevirtual 296, 3) := by decide +kernel
theorem dX11_run_68 : decode cX11_run 68 = .ok (.aload_n 0, 1) := by decide +kernel
theorem dX11_run_69 : decode cX11_run 69 = .ok (.getfield 239, 3) := by decide +kernel
theorem dX11_run_72 : decode cX11_run 72 = .ok (.lreturn, 1) := by decide +kernel
theorem dX11_would_0 : decode cX11_would 0 = .ok (.aload_n 0, 1) := by decide +kernel
theorem dX11_would_1 : decode cX11_would 1 = .ok (.iconst 0, 1) := by decide +kernel
theorem dX11_would_2 : decode cX11_would 2 = .ok (.putfield 104, 3) := by decide +kernel
theorem dX11_would_5 : decode cX11_would 5 = .ok (.aload_n 0, 1) := by decide +kernel
theorem dX11_would_6 : decode cX11_would 6 = .ok (.aload_n 0, 1) := by decide +kernel
theorem dX11_would_7 : decode cX11_would 7 = .ok (.iload_n 1, 1) := by decide +kernel
theorem dX11_would_8 : decode cX11_would 8 = .ok (.iload_n 2, 1) := by decide +kernel
theorem dX11_would_9 : decode cX11_would 9 = .ok (.invokevirtual 302, 3) := by decide +kernel
theorem dX11_would_12 : decode cX11_would 12 = .ok (.ifCond .eq 12, 3) := by decide +kernel
theorem dX11_would_15 : decode cX11_would 15 = .ok (.iload_n 3, 1) := by decide +kernel
theorem dX11_would_16 : decode cX11_would 16 = .ok (.iconst 0, 1) := by decide +kernel
theorem dX11_would_17 : decode cX11_would 17 = .ok (.iconst 3, 1) := by decide +kernel
theorem dX11_would_18 : decode cX11_would 18 = .ok (.invokestatic 138, 3) := by decide +kernel
theorem dX11_would_21 : decode cX11_would 21 = .ok (.ifCond .ne 7, 3) := by decide +kernel
theorem dX11_would_24 : decode cX11_would 24 = .ok (.iconst 1, 1) := by decide +kernel
theorem dX11_would_25 : decode cX11_would 25 = .ok (.goto 4, 3) := by decide +kernel
theorem dX11_would_28 : decode cX11_would 28 = .ok (.iconst 0, 1) := by decide +kernel
theorem dX11_would_29 : decode cX11_would 29 = .ok (.iconst 1, 1) := by decide +kernel
theorem dX11_would_30 : decode cX11_would 30 = .ok (.invokevirtual 181, 3) := by decide +kernel
theorem dX11_would_33 : decode cX11_would 33 = .ok (.ifCond .ne 28, 3) := by decide +kernel
theorem dX11_would_36 : decode cX11_would 36 = .ok (.aload_n 0, 1) := by decide +kernel
theorem dX11_would_37 : decode cX11_would 37 = .ok (.iload_n 1, 1) := by decide +kernel
theorem dX11_would_38 : decode cX11_would 38 = .ok (.iconst 1, 1) := by decide +kernel
theorem dX11_would_39 : decode cX11_would 39 = .ok (.if_icmp .ne 14, 3) := by decide +kernel
theorem dX11_would_42 : decode cX11_would 42 = .ok (.aload_n 0, 1) := by decide +kernel
theorem dX11_would_43 : decode cX11_would 43 = .ok (.getfield 191, 3) := by decide +kernel
theorem dX11_would_46 : decode cX11_would 46 = .ok (.ifCond .ne 7, 3) := by decide +kernel
theorem dX11_would_49 : decode cX11_would 49 = .ok (.iconst 1, 1) := by decide +kernel
theorem dX11_would_50 : decode cX11_would 50 = .ok (.goto 4, 3) := by decide +kernel
theorem dX11_would_53 : decode cX11_would 53 = .ok (.iconst 0, 1) := by decide +kernel
theorem dX11_would_54 : decode cX11_would 54 = .ok (.iconst 2, 1) := by decide +kernel
theorem dX11_would_55 : decode cX11_would 55 = .ok (.invokevirtual 181, 3) := by decide +kernel
theorem dX11_would_58 : decode cX11_would 58 = .ok (.ifCond .eq 5, 3) := by decide +kernel
theorem dX11_would_61 : decode cX11_would 61 = .ok (.lconst 0, 1) := by decide +kernel
theorem dX11_would_62 : decode cX11_would 62 = .ok (.lreturn, 1) := by decide +kernel
theorem dX11_would_63 : decode cX11_would 63 = .ok (.aload_n 0, 1) := by decide +kernel
theorem dX11_would_64 : decode cX11_would 64 = .ok (.invokevirtual 255, 3) := by decide +kernel
theorem dX11_would_67 : decode cX11_would 67 = .ok (.aload_n 0, 1) := by decide +kernel
theorem dX11_would_68 : decode cX11_would 68 = .ok (.iload_n 1, 1) := by decide +kernel
theorem dX11_would_69 : decode cX11_would 69 = .ok (.iload_n 2, 1) := by decide +kernel
theorem dX11_would_70 : decode cX11_would 70 = .ok (.invokevirtual 305, 3) := by decide +kernel
theorem dX11_would_73 : decode cX11_would 73 = .ok (.iload_n 3, 1) := by decide +kernel
theorem dX11_would_74 : decode cX11_would 74 = .ok (.iconst 2, 1) := by decide +kernel
theorem dX11_would_75 : decode cX11_would 75 = .ok (.if_icmp .ge 20, 3) := by decide +kernel
theorem dX11_would_78 : decode cX11_would 78 = .ok (.iload_n 3, 1) := by decide +kernel
theorem dX11_would_79 : decode cX11_would 79 = .ok (.ifCond .ne 10, 3) := by decide +kernel
theorem dX11_would_82 : decode cX11_would 82 = .ok (.aload_n 0, 1) := by decide +kernel
theorem dX11_would_83 : decode cX11_would 83 = .ok (.getfield 239, 3) := by decide +kernel
theorem dX11_would_86 : decode cX11_would 86 = .ok (.goto 8, 3) := by decide +kernel
theorem dX11_would_89 : decode cX11_would 89 = .ok (.aload_n 0, 1) := by decide +kernel
theorem dX11_would_90 : decode cX11_would 90 = .ok (.getfield 246, 3) := by decide +kernel
theorem dX11_would_93 : decode cX11_would 93 = .ok (.i2l, 1) := by decide +kernel
theorem dX11_would_94 : decode cX11_would 94 = .ok (.lreturn, 1) := by decide +kernel
theorem dX11_would_95 : decode cX11_would 95 = .ok (.iconst 0, 1) := by decide +kernel
theorem dX11_would_96 : decode cX11_would 96 = .ok (.istore 4, 2) := by decide +kernel
theorem dX11_would_98 : decode cX11_would 98 = .ok (.iconst 0, 1) := by decide +kernel
theorem dX11_would_99 : decode cX11_would 99 = .ok (.istore 5, 2) := by decide +kernel
theorem dX11_would_101 : decode cX11_would 101 = .ok (.iconst 0, 1) := by decide +kernel
theorem dX11_would_102 : decode cX11_would 102 = .ok (.istore 6, 2) := by decide +kernel
theorem dX11_would_104 : decode cX11_would 104 = .ok (.iload 6, 2) := by decide +kernel
theorem dX11_would_106 : decode cX11_would 106 = .ok (.aload_n 0, 1) := by decide +kernel
theorem dX11_would_107 : decode cX11_would 107 = .ok (.getfield 204, 3) := by decide +kernel
theorem dX11_would_110 : decode cX11_would 110 = .ok (.if_icmp .ge 64, 3) := by decide +kernel
theorem dX11_would_113 : decode cX11_would 113 = .ok (.iload 4, 2) := by decide +kernel
theorem dX11_would_115 : decode cX11_would 115 = .ok (.aload_n 0, 1) := by decide +kernel
theorem dX11_would_116 : decode cX11_would 116 = .ok (.getfield 61, 3) := by decide +kernel
theorem dX11_would_119 : decode cX11_would 119 = .ok (.iload 6, 2) := by decide +kernel
theorem dX11_would_121 : decode cX11_would 121 = .ok (.iaload, 1) := by decide +kernel
theorem dX11_would_122 : decode cX11_would 122 = .ok (.aload_n 0, 1) := by decide +kernel
theorem dX11_would_123 : decode cX11_would 123 = .ok (.getfield 34, 3) := by decide +kernel
theorem dX11_would_126 : decode cX11_would 126 = .ok (.iload 6, 2) := by decide +kernel
theorem dX11_would_128 : decode cX11_would 128 = .ok (.aaload, 1) := by decide +kernel
theorem dX11_would_129 : decode cX11_would 129 = .ok (.iconst 4, 1) := by decide +kernel
theorem dX11_would_130 : decode cX11_would 130 = .ok (.iaload, 1) := by decide +kernel
theorem dX11_would_131 : decode cX11_would 131 = .ok (.if_icmp .le 7, 3) := by decide +kernel
theorem dX11_would_134 : decode cX11_would 134 = .ok (.iconst 1, 1) := by decide +kernel
theorem dX11_would_135 : decode cX11_would 135 = .ok (.goto 4, 3) := by decide +kernel
theorem dX11_would_138 : decode cX11_would 138 = .ok (.iconst 0, 1) := by decide +kernel
theorem dX11_would_139 : decode cX11_would 139 = .ok (.iadd, 1) := by decide +kernel
theorem dX11_would_140 : decode cX11_would 140 = .ok (.istore 4, 2) := by decide +kernel
theorem dX11_would_142 : decode cX11_would 142 = .ok (.aload_n 0, 1) := by decide +kernel
theorem dX11_would_143 : decode cX11_would 143 = .ok (.getfield 61, 3) := by decide +kernel
theorem dX11_would_146 : decode cX11_would 146 = .ok (.iload 6, 2) := by decide +kernel
theorem dX11_would_148 : decode cX11_would 148 = .ok (.iaload, 1) := by decide +kernel
theorem dX11_would_149 : decode cX11_would 149 = .ok (.iload 5, 2) := by decide +kernel
theorem dX11_would_151 : decode cX11_would 151 = .ok (.if_icmp .le 13, 3) := by decide +kernel
theorem dX11_would_154 : decode cX11_would 154 = .ok (.aload_n 0, 1) := by decide +kernel
theorem dX11_would_155 : decode cX11_would 155 = .ok (.getfield 61, 3) := by decide +kernel
theorem dX11_would_158 : decode cX11_would 158 = .ok (.iload 6, 2) := by decide +kernel
theorem dX11_would_160 : decode cX11_would 160 = .ok (.iaload, 1) := by decide +kernel
theorem dX11_would_161 : decode cX11_would 161 = .ok (.goto 5, 3) := by decide +kernel
theorem dX11_would_164 : decode cX11_would 164 = .ok (.iload 5, 2) := by decide +kernel
theorem dX11_would_166 : decode cX11_would 166 = .ok (.istore 5, 2) := by decide +kernel
theorem dX11_would_168 : decode cX11_would 168 = .ok (.iinc 6 1, 3) := by decide +kernel
theorem dX11_would_171 : decode cX11_would 171 = .ok (.goto (-67), 3) := by decide +kernel
theorem dX11_would_174 : decode cX11_would 174 = .ok (.iload_n 3, 1) := by decide +kernel
theorem dX11_would_175 : decode cX11_would 175 = .ok (.iconst 2, 1) := by decide +kernel
theorem dX11_would_176 : decode cX11_would 176 = .ok (.if_icmp .ne 9, 3) := by decide +kernel
theorem dX11_would_179 : decode cX11_would 179 = .ok (.iload 4, 2) := by decide +kernel
theorem dX11_would_181 : decode cX11_would 181 = .ok (.i2l, 1) := by decide +kernel
theorem dX11_would_182 : decode cX11_would 182 = .ok (.goto 6, 3) := by decide +kernel
theorem dX11_would_185 : decode cX11_would 185 = .ok (.iload 5, 2) := by decide +kernel
theorem dX11_would_187 : decode cX11_would 187 = .ok (.i2l, 1) := by decide +kernel
theorem dX11_would_188 : decode cX11_would 188 = .ok (.lreturn, 1) := by decide +kernel
theorem dX11_row_0 : decode cX11_row 0 = .ok (.aload_n 0, 1) := by decide +kernel
theorem dX11_row_1 : decode cX11_row 1 = .ok (.iconst 0, 1) := by decide +kernel
theorem dX11_row_2 : decode cX11_row 2 = .ok (.putfield 104, 3) := by decide +kernel
theorem dX11_row_5 : decode cX11_row 5 = .ok (.aload_n 0, 1) := by decide +kernel
theorem dX11_row_6 : decode cX11_row 6 = .ok (.aload_n 0, 1) := by decide +kernel
theorem dX11_row_7 : decode cX11_row 7 = .ok (.iload_n 1, 1) := by decide +kernel
theorem dX11_row_8 : decode cX11_row 8 = .ok (.invokevirtual 252, 3) := by decide +kernel
theorem dX11_row_11 : decode cX11_row 11 = .ok (.ifCond .ne 7, 3) := by decide +kernel
theorem dX11_row_14 : decode cX11_row 14 = .ok (.iconst 1, 1) := by decide +kernel
theorem dX11_row_15 : decode cX11_row 15 = .ok (.goto 4, 3) := by decide +kernel
theorem dX11_row_18 : decode cX11_row 18 = .ok (.iconst 0, 1) := by decide +kernel
theorem dX11_row_19 : decode cX11_row 19 = .ok (.iconst 1, 1) := by decide +kernel
theorem dX11_row_20 : decode cX11_row 20 = .ok (.invokevirtual 181, 3) := by decide +kernel
theorem dX11_row_23 : decode cX11_row 23 = .ok (.ifCond .eq 5, 3) := by decide +kernel
theorem dX11_row_26 : decode cX11_row 26 = .ok (.iconst 0, 1) := by decide +kernel
theorem dX11_row_27 : decode cX11_row 27 = .ok (.ireturn, 1) := by decide +kernel
theorem dX11_row_28 : decode cX11_row 28 = .ok (.aload_n 0, 1) := by decide +kernel
theorem dX11_row_29 : decode cX11_row 29 = .ok (.getfield 191, 3) := by decide +kernel
theorem dX11_row_32 : decode cX11_row 32 = .ok (.bipush 30, 2) := by decide +kernel
theorem dX11_row_34 : decode cX11_row 34 = .ok (.if_icmp .ne 5, 3) := by decide +kernel
theorem dX11_row_37 : decode cX11_row 37 = .ok (.iconst (-1), 1) := by decide +kernel
theorem dX11_row_38 : decode cX11_row 38 = .ok (.ireturn, 1) := by decide +kernel
theorem dX11_row_39 : decode cX11_row 39 = .ok (.aload_n 0, 1) := by decide +kernel
theorem dX11_row_40 : decode cX11_row 40 = .ok (.getfield 55, 3) := by decide +kernel
theorem dX11_row_43 : decode cX11_row 43 = .ok (.aload_n 0, 1) := by decide +kernel
theorem dX11_row_44 : decode cX11_row 44 = .ok (.getfield 191, 3) := by decide +kernel
theorem dX11_row_47 : decode cX11_row 47 = .ok (.iload_n 1, 1) := by decide +kernel
theorem dX11_row_48 : decode cX11_row 48 = .ok (.iastore, 1) := by decide +kernel
theorem dX11_row_49 : decode cX11_row 49 = .ok (.aload_n 0, 1) := by decide +kernel
theorem dX11_row_50 : decode cX11_row 50 = .ok (.dup, 1) := by decide +kernel
theorem dX11_row_51 : decode cX11_row 51 = .ok (.getfield 191, 3) := by decide +kernel
theorem dX11_row_54 : decode cX11_row 54 = .ok (.iconst 1, 1) := by decide +kernel
theorem dX11_row_55 : decode cX11_row 55 = .ok (.iadd, 1) := by decide +kernel
theorem dX11_row_56 : decode cX11_row 56 = .ok (.putfield 191, 3) := by decide +kernel
theorem dX11_row_59 : decode cX11_row 59 = .ok (.aload_n 0, 1) := by decide +kernel
theorem dX11_row_60 : decode cX11_row 60 = .ok (.getfield 191, 3) := by decide +kernel
theorem dX11_row_63 : decode cX11_row 63 = .ok (.ireturn, 1) := by decide +kernel
theorem dX11_clear_0 : decode cX11_clear 0 = .ok (.aload_n 0, 1) := by decide +kernel
theorem dX11_clear_1 : decode cX11_clear 1 = .ok (.iconst 0, 1) := by decide +kernel
theorem dX11_clear_2 : decode cX11_clear 2 = .ok (.putfield 104, 3) := by decide +kernel
theorem dX11_clear_5 : decode cX11_clear 5 = .ok (.aload_n 0, 1) := by decide +kernel
theorem dX11_clear_6 : decode cX11_clear 6 = .ok (.getfield 191, 3) := by decide +kernel
theorem dX11_clear_9 : decode cX11_clear 9 = .ok (.istore_n 1, 1) := by decide +kernel
theorem dX11_clear_10 : decode cX11_clear 10 = .ok (.aload_n 0, 1) := by decide +kernel
theorem dX11_clear_11 : decode cX11_clear 11 = .ok (.iconst 0, 1) := by decide +kernel
theorem dX11_clear_12 : decode cX11_clear 12 = .ok (.putfield 191, 3) := by decide +kernel
theorem dX11_clear_15 : decode cX11_clear 15 = .ok (.iload_n 1, 1) := by decide +kernel
theorem dX11_clear_16 : decode cX11_clear 16 = .ok (.ireturn, 1) := by decide +kernel
theorem dX11_judge_0 : decode cX11_judge 0 = .ok (.aload_n 0, 1) := by decide +kernel
theorem dX11_judge_1 : decode cX11_judge 1 = .ok (.iconst 0, 1) := by decide +kernel
theorem dX11_judge_2 : decode cX11_judge 2 = .ok (.putfield 104, 3) := by decide +kernel
theorem dX11_judge_5 : decode cX11_judge 5 = .ok (.aload_n 0, 1) := by decide +kernel
theorem dX11_judge_6 : decode cX11_judge 6 = .ok (.iload_n 1, 1) := by decide +kernel
theorem dX11_judge_7 : decode cX11_judge 7 = .ok (.iconst 0, 1) := by decide +kernel
theorem dX11_judge_8 : decode cX11_judge 8 = .ok (.iconst 3, 1) := by decide +kernel
theorem dX11_judge_9 : decode cX11_judge 9 = .ok (.invokestatic 138, 3) := by decide +kernel
theorem dX11_judge_12 : decode cX11_judge 12 = .ok (.ifCond .ne 7, 3) := by decide +kernel
theorem dX11_judge_15 : decode cX11_judge 15 = .ok (.iconst 1, 1) := by decide +kernel
theorem dX11_judge_16 : decode cX11_judge 16 = .ok (.goto 4, 3) := by decide +kernel
theorem dX11_judge_19 : decode cX11_judge 19 = .ok (.iconst 0, 1) := by decide +kernel
theorem dX11_judge_20 : decode cX11_judge 20 = .ok (.iconst 1, 1) := by decide +kernel
theorem dX11_judge_21 : decode cX11_judge 21 = .ok (.invokevirtual 181, 3) := by decide +kernel
theorem dX11_judge_24 : decode cX11_judge 24 = .ok (.ifCond .eq 5, 3) := by decide +kernel
theorem dX11_judge_27 : decode cX11_judge 27 = .ok (.iconst 0, 1) := by decide +kernel
theorem dX11_judge_28 : decode cX11_judge 28 = .ok (.ireturn, 1) := by decide +kernel
theorem dX11_judge_29 : decode cX11_judge 29 = .ok (.iconst (-1), 1) := by decide +kernel
theorem dX11_judge_30 : decode cX11_judge 30 = .ok (.istore_n 2, 1) := by decide +kernel
theorem dX11_judge_31 : decode cX11_judge 31 = .ok (.iconst (-1), 1) := by decide +kernel
theorem dX11_judge_32 : decode cX11_judge 32 = .ok (.istore_n 3, 1) := by decide +kernel
theorem dX11_judge_33 : decode cX11_judge 33 = .ok (.iconst (-1), 1) := by decide +kernel
theorem dX11_judge_34 : decode cX11_judge 34 = .ok (.istore 4, 2) := by decide +kernel
theorem dX11_judge_36 : decode cX11_judge 36 = .ok (.iconst (-1), 1) := by decide +kernel
theorem dX11_judge_37 : decode cX11_judge 37 = .ok (.istore 5, 2) := by decide +kernel
theorem dX11_judge_39 : decode cX11_judge 39 = .ok (.aload_n 0, 1) := by decide +kernel
theorem dX11_judge_40 : decode cX11_judge 40 = .ok (.invokevirtual 255, 3) := by decide +kernel
theorem dX11_judge_43 : decode cX11_judge 43 = .ok (.iconst 0, 1) := by decide +kernel
theorem dX11_judge_44 : decode cX11_judge 44 = .ok (.istore 6, 2) := by decide +kernel
theorem dX11_judge_46 : decode cX11_judge 46 = .ok (.iload 6, 2) := by decide +kernel
theorem dX11_judge_48 : decode cX11_judge 48 = .ok (.aload_n 0, 1) := by decide +kernel
theorem dX11_judge_49 : decode cX11_judge 49 = .ok (.getfield 191, 3) := by decide +kernel
theorem dX11_judge_52 : decode cX11_judge 52 = .ok (.if_icmp .ge 65, 3) := by decide +kernel
theorem dX11_judge_55 : decode cX11_judge 55 = .ok (.aload_n 0, 1) := by decide +kernel
theorem dX11_judge_56 : decode cX11_judge 56 = .ok (.aload_n 0, 1) := by decide +kernel
theorem dX11_judge_57 : decode cX11_judge 57 = .ok (.getfield 55, 3) := by decide +kernel
theorem dX11_judge_60 : decode cX11_judge 60 = .ok (.iload 6, 2) := by decide +kernel
theorem dX11_judge_62 : decode cX11_judge 62 = .ok (.iaload, 1) := by decide +kernel
theorem dX11_judge_63 : decode cX11_judge 63 = .ok (.invokevirtual 293, 3) := by decide +kernel
theorem dX11_judge_66 : decode cX11_judge 66 = .ok (.iload_n 2, 1) := by decide +kernel
theorem dX11_judge_67 : decode cX11_judge 67 = .ok (.iconst (-1), 1) := by decide +kernel
theorem dX11_judge_68 : decode cX11_judge 68 = .ok (.if_icmp .ne 19, 3) := by decide +kernel
theorem dX11_judge_71 : decode cX11_judge 71 = .ok (.aload_n 0, 1) := by decide +kernel
theorem dX11_judge_72 : decode cX11_judge 72 = .ok (.invokevirtual 308, 3) := by decide +kernel
theorem dX11_judge_75 : decode cX11_judge 75 = .ok (.iconst (-1), 1) := by decide +kernel
theorem dX11_judge_76 : decode cX11_judge 76 = .ok (.if_icmp .eq 11, 3) := by decide +kernel
theorem dX11_judge_79 : decode cX11_judge 79 = .ok (.iload 6, 2) := by decide +kernel
theorem dX11_judge_81 : decode cX11_judge 81 = .ok (.istore_n 2, 1) := by decide +kernel
theorem dX11_judge_82 : decode cX11_judge 82 = .ok (.aload_n 0, 1) := by decide +kernel
theorem dX11_judge_83 : decode cX11_judge 83 = .ok (.invokevirtual 308, 3) := by decide +kernel
theorem dX11_judge_86 : decode cX11_judge 86 = .ok (.istore_n 3, 1) := by decide +kernel
theorem dX11_judge_87 : decode cX11_judge 87 = .ok (.iload 4, 2) := by decide +kernel
theorem dX11_judge_89 : decode cX11_judge 89 = .ok (.iconst (-1), 1) := by decide +kernel
theorem dX11_judge_90 : decode cX11_judge 90 = .ok (.if_icmp .ne 21, 3) := by decide +kernel
theorem dX11_judge_93 : decode cX11_judge 93 = .ok (.aload_n 0, 1) := by decide +kernel
theorem dX11_judge_94 : decode cX11_judge 94 = .ok (.getfield 278, 3) := by decide +kernel
theorem dX11_judge_97 : decode cX11_judge 97 = .ok (.iconst (-1), 1) := by decide +kernel
theorem dX11_judge_98 : decode cX11_judge 98 = .ok (.if_icmp .eq 13, 3) := by decide +kernel
theorem dX11_judge_101 : decode cX11_judge 101 = .ok (.iload 6, 2) := by decide +kernel
theorem dX11_judge_103 : decode cX11_judge 103 = .ok (.istore 4, 2) := by decide +kernel
theorem dX11_judge_105 : decode cX11_judge 105 = .ok (.aload_n 0, 1) := by decide +kernel
theorem dX11_judge_106 : decode cX11_judge 106 = .ok (.getfield 278, 3) := by decide +kernel
theorem dX11_judge_109 : decode cX11_judge 109 = .ok (.istore 5, 2) := by decide +kernel
theorem dX11_judge_111 : decode cX11_judge 111 = .ok (.iinc 6 1, 3) := by decide +kernel
theorem dX11_judge_114 : decode cX11_judge 114 = .ok (.goto (-68), 3) := by decide +kernel
theorem dX11_judge_117 : decode cX11_judge 117 = .ok (.iload_n 1, 1) := by decide +kernel
theorem dX11_judge_118 : decode cX11_judge 118 = .ok (.ifCond .ne 7, 3) := by decide +kernel
theorem dX11_judge_121 : decode cX11_judge 121 = .ok (.iload_n 2, 1) := by decide +kernel
theorem dX11_judge_122 : decode cX11_judge 122 = .ok (.goto 24, 3) := by decide +kernel
theorem dX11_judge_125 : decode cX11_judge 125 = .ok (.iload_n 1, 1) := by decide +kernel
theorem dX11_judge_126 : decode cX11_judge 126 = .ok (.iconst 1, 1) := by decide +kernel
theorem dX11_judge_127 : decode cX11_judge 127 = .ok (.if_icmp .ne 7, 3) := by decide +kernel
theorem dX11_judge_130 : decode cX11_judge 130 = .ok (.iload_n 3, 1) := by decide +kernel
theorem dX11_judge_131 : decode cX11_judge 131 = .ok (.goto 15, 3) := by decide +kernel
theorem dX11_judge_134 : decode cX11_judge 134 = .ok (.iload_n 1, 1) := by decide +kernel
theorem dX11_judge_135 : decode cX11_judge 135 = .ok (.iconst 2, 1) := by decide +kernel
theorem dX11_judge_136 : decode cX11_judge 136 = .ok (.if_icmp .ne 8, 3) := by decide +kernel
theorem dX11_judge_139 : decode cX11_judge 139 = .ok (.iload 4, 2) := by decide +kernel
theorem dX11_judge_141 : decode cX11_judge 141 = .ok (.goto 5, 3) := by decide +kernel
theorem dX11_judge_144 : decode cX11_judge 144 = .ok (.iload 5, 2) := by decide +kernel
theorem dX11_judge_146 : decode cX11_judge 146 = .ok (.ireturn, 1) := by decide +kernel
theorem dX11_minutes_0 : decode cX11_minutes 0 = .ok (.aload_n 0, 1) := by decide +kernel
theorem dX11_minutes_1 : decode cX11_minutes 1 = .ok (.iconst 0, 1) := by decide +kernel
theorem dX11_minutes_2 : decode cX11_minutes 2 = .ok (.putfield 104, 3) := by decide +kernel
theorem dX11_minutes_5 : decode cX11_minutes 5 = .ok (.aload_n 0, 1) := by decide +kernel
theorem dX11_minutes_6 : decode cX11_minutes 6 = .ok (.invokevirtual 255, 3) := by decide +kernel
theorem dX11_minutes_9 : decode cX11_minutes 9 = .ok (.iconst 0, 1) := by decide +kernel
theorem dX11_minutes_10 : decode cX11_minutes 10 = .ok (.istore_n 1, 1) := by decide +kernel
theorem dX11_minutes_11 : decode cX11_minutes 11 = .ok (.iload_n 1, 1) := by decide +kernel
theorem dX11_minutes_12 : decode cX11_minutes 12 = .ok (.aload_n 0, 1) := by decide +kernel
theorem dX11_minutes_13 : decode cX11_minutes 13 = .ok (.getfield 191, 3) := by decide +kernel
theorem dX11_minutes_16 : decode cX11_minutes 16 = .ok (.if_icmp .ge 19, 3) := by decide +kernel
theorem dX11_minutes_19 : decode cX11_minutes 19 = .ok (.aload_n 0, 1) := by decide +kernel
theorem dX11_minutes_20 : decode cX11_minutes 20 = .ok (.aload_n 0, 1) := by decide +kernel
theorem dX11_minutes_21 : decode cX11_minutes 21 = .ok (.getfield 55, 3) := by decide +kernel
theorem dX11_minutes_24 : decode cX11_minutes 24 = .ok (.iload_n 1, 1) := by decide +kernel
theorem dX11_minutes_25 : decode cX11_minutes 25 = .ok (.iaload, 1) := by decide +kernel
theorem dX11_minutes_26 : decode cX11_minutes 26 = .ok (.invokevirtual 293, 3) := by decide +kernel
theorem dX11_minutes_29 : decode cX11_minutes 29 = .ok (.iinc 1 1, 3) := by decide +kernel
theorem dX11_minutes_32 : decode cX11_minutes 32 = .ok (.goto (-21), 3) := by decide +kernel
theorem dX11_minutes_35 : decode cX11_minutes 35 = .ok (.aload_n 0, 1) := by decide +kernel
theorem dX11_minutes_36 : decode cX11_minutes 36 = .ok (.getfield 239, 3) := by decide +kernel
theorem dX11_minutes_39 : decode cX11_minutes 39 = .ok (.lreturn, 1) := by decide +kernel
theorem dX11_keeps_0 : decode cX11_keeps 0 = .ok (.aload_n 0, 1) := by decide +kernel
theorem dX11_keeps_1 : decode cX11_keeps 1 = .ok (.getfield 91, 3) := by decide +kernel
theorem dX11_keeps_4 : decode cX11_keeps 4 = .ok (.iload_n 1, 1) := by decide +kernel
theorem dX11_keeps_5 : decode cX11_keeps 5 = .ok (.lconst 0, 1) := by decide +kernel
theorem dX11_keeps_6 : decode cX11_keeps 6 = .ok (.lastore, 1) := by decide +kernel
theorem dX11_keeps_7 : decode cX11_keeps 7 = .ok (.aload_n 0, 1) := by decide +kernel
theorem dX11_keeps_8 : decode cX11_keeps 8 = .ok (.getfield 95, 3) := by decide +kernel
theorem dX11_keeps_11 : decode cX11_keeps 11 = .ok (.iload_n 1, 1) := by decide +kernel
theorem dX11_keeps_12 : decode cX11_keeps 12 = .ok (.aload_n 0, 1) := by decide +kernel
theorem dX11_keeps_13 : decode cX11_keeps 13 = .ok (.getfield 236, 3) := by decide +kernel
theorem dX11_keeps_16 : decode cX11_keeps 16 = .ok (.aload_n 0, 1) := by decide +kernel
theorem dX11_keeps_17 : decode cX11_keeps 17 = .ok (.getfield 191, 3) := by decide +kernel
theorem dX11_keeps_20 : decode cX11_keeps 20 = .ok (.irem, 1) := by decide +kernel
theorem dX11_keeps_21 : decode cX11_keeps 21 = .ok (.bipush 7, 2) := by decide +kernel
theorem dX11_keeps_23 : decode cX11_keeps 23 = .ok (.imul, 1) := by decide +kernel
theorem dX11_keeps_24 : decode cX11_keeps 24 = .ok (.aload_n 0, 1) := by decide +kernel
theorem dX11_keeps_25 : decode cX11_keeps 25 = .ok (.getfield 230, 3) := by decide +kernel
theorem dX11_keeps_28 : decode cX11_keeps 28 = .ok (.bipush 7, 2) := by decide +kernel
theorem dX11_keeps_30 : decode cX11_keeps 30 = .ok (.irem, 1) := by decide +kernel
theorem dX11_keeps_31 : decode cX11_keeps 31 = .ok (.iadd, 1) := by decide +kernel
theorem dX11_keeps_32 : decode cX11_keeps 32 = .ok (.i2l, 1) := by decide +kernel
theorem dX11_keeps_33 : decode cX11_keeps 33 = .ok (.lastore, 1) := by decide +kernel
theorem dX11_keeps_34 : decode cX11_keeps 34 = .ok (.iconst 0, 1) := by decide +kernel
theorem dX11_keeps_35 : decode cX11_keeps 35 = .ok (.istore_n 2, 1) := by decide +kernel
theorem dX11_keeps_36 : decode cX11_keeps 36 = .ok (.iload_n 2, 1) := by decide +kernel
theorem dX11_keeps_37 : decode cX11_keeps 37 = .ok (.aload_n 0, 1) := by decide +kernel
theorem dX11_keeps_38 : decode cX11_keeps 38 = .ok (.getfield 204, 3) := by decide +kernel
theorem dX11_keeps_41 : decode cX11_keeps 41 = .ok (.if_icmp .ge 90, 3) := by decide +kernel
theorem dX11_keeps_44 : decode cX11_keeps 44 = .ok (.iload_n 2, 1) := by decide +kernel
theorem dX11_keeps_45 : decode cX11_keeps 45 = .ok (.bipush 8, 2) := by decide +kernel
theorem dX11_keeps_47 : decode cX11_keeps 47 = .ok (.if_icmp .ge 30, 3) := by decide +kernel
theorem dX11_keeps_50 : decode cX11_keeps 50 = .ok (.aload_n 0, 1) := by decide +kernel
theorem dX11_keeps_51 : decode cX11_keeps 51 = .ok (.getfield 91, 3) := by decide +kernel
theorem dX11_keeps_54 : decode cX11_keeps 54 = .ok (.iload_n 1, 1) := by decide +kernel
theorem dX11_keeps_55 : decode cX11_keeps 55 = .ok (.aload_n 0, 1) := by decide +kernel
theorem dX11_keeps_56 : decode cX11_keeps 56 = .ok (.getfield 91, 3) := by decide +kernel
theorem dX11_keeps_59 : decode cX11_keeps 59 = .ok (.iload_n 1, 1) := by decide +kernel
theorem dX11_keeps_60 : decode cX11_keeps 60 = .ok (.laload, 1) := by decide +kernel
theorem dX11_keeps_61 : decode cX11_keeps 61 = .ok (.ldc2_w 311, 3) := by decide +kernel
theorem dX11_keeps_64 : decode cX11_keeps 64 = .ok (.lmul, 1) := by decide +kernel
theorem dX11_keeps_65 : decode cX11_keeps 65 = .ok (.aload_n 0, 1) := by decide +kernel
theorem dX11_keeps_66 : decode cX11_keeps 66 = .ok (.getfield 61, 3) := by decide +kernel
theorem dX11_keeps_69 : decode cX11_keeps 69 = .ok (.iload_n 2, 1) := by decide +kernel
theorem dX11_keeps_70 : decode cX11_keeps 70 = .ok (.iaload, 1) := by decide +kernel
theorem dX11_keeps_71 : decode cX11_keeps 71 = .ok (.i2l, 1) := by decide +kernel
theorem dX11_keeps_72 : decode cX11_keeps 72 = .ok (.ladd, 1) := by decide +kernel
theorem dX11_keeps_73 : decode cX11_keeps 73 = .ok (.lastore, 1) := by decide +kernel
theorem dX11_keeps_74 : decode cX11_keeps 74 = .ok (.goto 27, 3) := by decide +kernel
theorem dX11_keeps_77 : decode cX11_keeps 77 = .ok (.aload_n 0, 1) := by decide +kernel
theorem dX11_keeps_78 : decode cX11_keeps 78 = .ok (.getfield 95, 3) := by decide +kernel
theorem dX11_keeps_81 : decode cX11_keeps 81 = .ok (.iload_n 1, 1) := by decide +kernel
theorem dX11_keeps_82 : decode cX11_keeps 82 = .ok (.aload_n 0, 1) := by decide +kernel
theorem dX11_keeps_83 : decode cX11_keeps 83 = .ok (.getfield 95, 3) := by decide +kernel
theorem dX11_keeps_86 : decode cX11_keeps 86 = .ok (.iload_n 1, 1) := by decide +kernel
theorem dX11_keeps_87 : decode cX11_keeps 87 = .ok (.laload, 1) := by decide +kernel
theorem dX11_keeps_88 : decode cX11_keeps 88 = .ok (.ldc2_w 311, 3) := by decide +kernel
theorem dX11_keeps_91 : decode cX11_keeps 91 = .ok (.lmul, 1) := by decide +kernel
theorem dX11_keeps_92 : decode cX11_keeps 92 = .ok (.aload_n 0, 1) := by decide +kernel
theorem dX11_keeps_93 : decode cX11_keeps 93 = .ok (.getfield 61, 3) := by decide +kernel
theorem dX11_keeps_96 : decode cX11_keeps 96 = .ok (.iload_n 2, 1) := by decide +kernel
theorem dX11_keeps_97 : decode cX11_keeps 97 = .ok (.iaload, 1) := by decide +kernel
theorem dX11_keeps_98 : decode cX11_keeps 98 = .ok (.i2l, 1) := by decide +kernel
theorem dX11_keeps_99 : decode cX11_keeps 99 = .ok (.ladd, 1) := by decide +kernel
theorem dX11_keeps_100 : decode cX11_keeps 100 = .ok (.lastore, 1) := by decide +kernel
theorem dX11_keeps_101 : decode cX11_keeps 101 = .ok (.aload_n 0, 1) := by decide +kernel
theorem dX11_keeps_102 : decode cX11_keeps 102 = .ok (.getfield 95, 3) := by decide +kernel
theorem dX11_keeps_105 : decode cX11_keeps 105 = .ok (.iload_n 1, 1) := by decide +kernel
theorem dX11_keeps_106 : decode cX11_keeps 106 = .ok (.aload_n 0, 1) := by decide +kernel
theorem dX11_keeps_107 : decode cX11_keeps 107 = .ok (.getfield 95, 3) := by decide +kernel
theorem dX11_keeps_110 : decode cX11_keeps 110 = .ok (.iload_n 1, 1) := by decide +kernel
theorem dX11_keeps_111 : decode cX11_keeps 111 = .ok (.laload, 1) := by decide +kernel
theorem dX11_keeps_112 : decode cX11_keeps 112 = .ok (.ldc2_w 313, 3) := by decide +kernel
theorem dX11_keeps_115 : decode cX11_keeps 115 = .ok (.lmul, 1) := by decide +kernel
theorem dX11_keeps_116 : decode cX11_keeps 116 = .ok (.aload_n 0, 1) := by decide +kernel
theorem dX11_keeps_117 : decode cX11_keeps 117 = .ok (.getfield 64, 3) := by decide +kernel
theorem dX11_keeps_120 : decode cX11_keeps 120 = .ok (.iload_n 2, 1) := by decide +kernel
theorem dX11_keeps_121 : decode cX11_keeps 121 = .ok (.iaload, 1) := by decide +kernel
theorem dX11_keeps_122 : decode cX11_keeps 122 = .ok (.i2l, 1) := by decide +kernel
theorem dX11_keeps_123 : decode cX11_keeps 123 = .ok (.ladd, 1) := by decide +kernel
theorem dX11_keeps_124 : decode cX11_keeps 124 = .ok (.lastore, 1) := by decide +kernel
theorem dX11_keeps_125 : decode cX11_keeps 125 = .ok (.iinc 2 1, 3) := by decide +kernel
theorem dX11_keeps_128 : decode cX11_keeps 128 = .ok (.goto (-92), 3) := by decide +kernel
theorem dX11_keeps_131 : decode cX11_keeps 131 = .ok (.return_, 1) := by decide +kernel
theorem dX11_findRound_0 : decode cX11_findRound 0 = .ok (.aload_n 0, 1) := by decide +kernel
theorem dX11_findRound_1 : decode cX11_findRound 1 = .ok (.invokevirtual 255, 3) := by decide +kernel
theorem dX11_findRound_4 : decode cX11_findRound 4 = .ok (.aload_n 0, 1) := by decide +kernel
theorem dX11_findRound_5 : decode cX11_findRound 5 = .ok (.iconst 1, 1) := by decide +kernel
theorem dX11_findRound_6 : decode cX11_findRound 6 = .ok (.putfield 274, 3) := by decide +kernel
theorem dX11_findRound_9 : decode cX11_findRound 9 = .ok (.aload_n 0, 1) := by decide +kernel
theorem dX11_findRound_10 : decode cX11_findRound 10 = .ok (.iconst (-1), 1) := by decide +kernel
theorem dX11_findRound_11 : decode cX11_findRound 11 = .ok (.putfield 315, 3) := by decide +kernel
theorem dX11_findRound_14 : decode cX11_findRound 14 = .ok (.aload_n 0, 1) := by decide +kernel
theorem dX11_findRound_15 : decode cX11_findRound 15 = .ok (.iconst (-1), 1) := by decide +kernel
theorem dX11_findRound_16 : decode cX11_findRound 16 = .ok (.putfield 318, 3) := by decide +kernel
theorem dX11_findRound_19 : decode cX11_findRound 19 = .ok (.aload_n 0, 1) := by decide +kernel
theorem dX11_findRound_20 : decode cX11_findRound 20 = .ok (.iconst (-1), 1) := by decide +kernel
theorem dX11_findRound_21 : decode cX11_findRound 21 = .ok (.putfield 321, 3) := by decide +kernel
theorem dX11_findRound_24 : decode cX11_findRound 24 = .ok (.aload_n 0, 1) := by decide +kernel
theorem dX11_findRound_25 : decode cX11_findRound 25 = .ok (.iconst 0, 1) := by decide +kernel
theorem dX11_findRound_26 : decode cX11_findRound 26 = .ok (.invokevirtual 324, 3) := by decide +kernel
theorem dX11_findRound_29 : decode cX11_findRound 29 = .ok (.iconst 0, 1) := by decide +kernel
theorem dX11_findRound_30 : decode cX11_findRound 30 = .ok (.istore_n 1, 1) := by decide +kernel
theorem dX11_findRound_31 : decode cX11_findRound 31 = .ok (.iload_n 1, 1) := by decide +kernel
theorem dX11_findRound_32 : decode cX11_findRound 32 = .ok (.sipush 4000, 3) := by decide +kernel
theorem dX11_findRound_35 : decode cX11_findRound 35 = .ok (.if_icmp .ge 136, 3) := by decide +kernel
theorem dX11_findRound_38 : decode cX11_findRound 38 = .ok (.aload_n 0, 1) := by decide +kernel
theorem dX11_findRound_39 : decode cX11_findRound 39 = .ok (.getfield 315, 3) := by decide +kernel
theorem dX11_findRound_42 : decode cX11_findRound 42 = .ok (.iconst (-1), 1) := by decide +kernel
theorem dX11_findRound_43 : decode cX11_findRound 43 = .ok (.if_icmp .ne 128, 3) := by decide +kernel
theorem dX11_findRound_46 : decode cX11_findRound 46 = .ok (.aload_n 0, 1) := by decide +kernel
theorem dX11_findRound_47 : decode cX11_findRound 47 = .ok (.aload_n 0, 1) := by decide +kernel
theorem dX11_findRound_48 : decode cX11_findRound 48 = .ok (.iconst 1, 1) := by decide +kernel
theorem dX11_findRound_49 : decode cX11_findRound 49 = .ok (.invokevirtual 290, 3) := by decide +kernel
theorem dX11_findRound_52 : decode cX11_findRound 52 = .ok (.invokevirtual 293, 3) := by decide +kernel
theorem dX11_findRound_55 : decode cX11_findRound 55 = .ok (.aload_n 0, 1) := by decide +kernel
theorem dX11_findRound_56 : decode cX11_findRound 56 = .ok (.getfield 321, 3) := by decide +kernel
theorem dX11_findRound_59 : decode cX11_findRound 59 = .ok (.iconst (-1), 1) := by decide +kernel
theorem dX11_findRound_60 : decode cX11_findRound 60 = .ok (.if_icmp .ne 24, 3) := by decide +kernel
theorem dX11_findRound_63 : decode cX11_findRound 63 = .ok (.aload_n 0, 1) := by decide +kernel
theorem dX11_findRound_64 : decode cX11_findRound 64 = .ok (.invokevirtual 308, 3) := by decide +kernel
theorem dX11_findRound_67 : decode cX11_findRound 67 = .ok (.iconst (-1), 1) := by decide +kernel
theorem dX11_findRound_68 : decode cX11_findRound 68 = .ok (.if_icmp .ne 11, 3) := by decide +kernel
theorem dX11_findRound_71 : decode cX11_findRound 71 = .ok (.aload_n 0, 1) := by decide +kernel
theorem dX11_findRound_72 : decode cX11_findRound 72 = .ok (.getfield 278, 3) := by decide +kernel
theorem dX11_findRound_75 : decode cX11_findRound 75 = .ok (.iconst (-1), 1) := by decide +kernel
theorem dX11_findRound_76 : decode cX11_findRound 76 = .ok (.if_icmp .eq 8, 3) := by decide +kernel
theorem dX11_findRound_79 : decode cX11_findRound 79 = .ok (.aload_n 0, 1) := by decide +kernel
theorem dX11_findRound_80 : decode cX11_findRound 80 = .ok (.iload_n 1, 1) := by decide +kernel
theorem dX11_findRound_81 : decode cX11_findRound 81 = .ok (.putfield 321, 3) := by decide +kernel
theorem dX11_findRound_84 : decode cX11_findRound 84 = .ok (.aload_n 0, 1) := by decide +kernel
theorem dX11_findRound_85 : decode cX11_findRound 85 = .ok (.iload_n 1, 1) := by decide +kernel
theorem dX11_findRound_86 : decode cX11_findRound 86 = .ok (.iconst 1, 1) := by decide +kernel
theorem dX11_findRound_87 : decode cX11_findRound 87 = .ok (.iadd, 1) := by decide +kernel
theorem dX11_findRound_88 : decode cX11_findRound 88 = .ok (.invokevirtual 324, 3) := by decide +kernel
theorem dX11_findRound_91 : decode cX11_findRound 91 = .ok (.iconst 0, 1) := by decide +kernel
theorem dX11_findRound_92 : decode cX11_findRound 92 = .ok (.istore_n 2, 1) := by decide +kernel
theorem dX11_findRound_93 : decode cX11_findRound 93 = .ok (.iload_n 2, 1) := by decide +kernel
theorem dX11_findRound_94 : decode cX11_findRound 94 = .ok (.iload_n 1, 1) := by decide +kernel
theorem dX11_findRound_95 : decode cX11_findRound 95 = .ok (.if_icmp .gt 70, 3) := by decide +kernel
theorem dX11_findRound_98 : decode cX11_findRound 98 = .ok (.aload_n 0, 1) := by decide +kernel
theorem dX11_findRound_99 : decode cX11_findRound 99 = .ok (.getfield 315, 3) := by decide +kernel
theorem dX11_findRound_102 : decode cX11_findRound 102 = .ok (.iconst (-1), 1) := by decide +kernel
theorem dX11_findRound_103 : decode cX11_findRound 103 = .ok (.if_icmp .ne 62, 3) := by decide +kernel
theorem dX11_findRound_106 : decode cX11_findRound 106 = .ok (.aload_n 0, 1) := by decide +kernel
theorem dX11_findRound_107 : decode cX11_findRound 107 = .ok (.getfield 91, 3) := by decide +kernel
theorem dX11_findRound_110 : decode cX11_findRound 110 = .ok (.iload_n 2, 1) := by decide +kernel
theorem dX11_findRound_111 : decode cX11_findRound 111 = .ok (.laload, 1) := by decide +kernel
theorem dX11_findRound_112 : decode cX11_findRound 112 = .ok (.aload_n 0, 1) := by decide +kernel
theorem dX11_findRound_113 : decode cX11_findRound 113 = .ok (.getfield 91, 3) := by decide +kernel
theorem dX11_findRound_116 : decode cX11_findRound 116 = .ok (.iload_n 1, 1) := by decide +kernel
theorem dX11_findRound_117 : decode cX11_findRound 117 = .ok (.iconst 1, 1) := by decide +kernel
theorem dX11_findRound_118 : decode cX11_findRound 118 = .ok (.iadd, 1) := by decide +kernel
theorem dX11_findRound_119 : decode cX11_findRound 119 = .ok (.laload, 1) := by decide +kernel
theorem dX11_findRound_120 : decode cX11_findRound 120 = .ok (.lcmp, 1) := by decide +kernel
theorem dX11_findRound_121 : decode cX11_findRound 121 = .ok (.ifCond .ne 38, 3) := by decide +kernel
theorem dX11_findRound_124 : decode cX11_findRound 124 = .ok (.aload_n 0, 1) := by decide +kernel
theorem dX11_findRound_125 : decode cX11_findRound 125 = .ok (.getfield 95, 3) := by decide +kernel
theorem dX11_findRound_128 : decode cX11_findRound 128 = .ok (.iload_n 2, 1) := by decide +kernel
theorem dX11_findRound_129 : decode cX11_findRound 129 = .ok (.laload, 1) := by decide +kernel
theorem dX11_findRound_130 : decode cX11_findRound 130 = .ok (.aload_n 0, 1) := by decide +kernel
theorem dX11_findRound_131 : decode cX11_findRound 131 = .ok (.getfield 95, 3) := by decide +kernel
theorem dX11_findRound_134 : decode cX11_findRound 134 = .ok (.iload_n 1, 1) := by decide +kernel
theorem dX11_findRound_135 : decode cX11_findRound 135 = .ok (.iconst 1, 1) := by decide +kernel
theorem dX11_findRound_136 : decode cX11_findRound 136 = .ok (.iadd, 1) := by decide +kernel
theorem dX11_findRound_137 : decode cX11_findRound 137 = .ok (.laload, 1) := by decide +kernel
theorem dX11_findRound_138 : decode cX11_findRound 138 = .ok (.lcmp, 1) := by decide +kernel
theorem dX11_findRound_139 : decode cX11_findRound 139 = .ok (.ifCond .eq 6, 3) := by decide +kernel
theorem dX11_findRound_142 : decode cX11_findRound 142 = .ok (.goto 17, 3) := by decide +kernel
theorem dX11_findRound_145 : decode cX11_findRound 145 = .ok (.aload_n 0, 1) := by decide +kernel
theorem dX11_findRound_146 : decode cX11_findRound 146 = .ok (.iload_n 2, 1) := by decide +kernel
theorem dX11_findRound_147 : decode cX11_findRound 147 = .ok (.putfield 315, 3) := by decide +kernel
theorem dX11_findRound_150 : decode cX11_findRound 150 = .ok (.aload_n 0, 1) := by decide +kernel
theorem dX11_findRound_151 : decode cX11_findRound 151 = .ok (.iload_n 1, 1) := by decide +kernel
theorem dX11_findRound_152 : decode cX11_findRound 152 = .ok (.iconst 1, 1) := by decide +kernel
theorem dX11_findRound_153 : decode cX11_findRound 153 = .ok (.iadd, 1) := by decide +kernel
theorem dX11_findRound_154 : decode cX11_findRound 154 = .ok (.iload_n 2, 1) := by decide +kernel
theorem dX11_findRound_155 : decode cX11_findRound 155 = .ok (.isub, 1) := by decide +kernel
theorem dX11_findRound_156 : decode cX11_findRound 156 = .ok (.putfield 318, 3) := by decide +kernel
theorem dX11_findRound_159 : decode cX11_findRound 159 = .ok (.iinc 2 1, 3) := by decide +kernel
theorem dX11_findRound_162 : decode cX11_findRound 162 = .ok (.goto (-69), 3) := by decide +kernel
theorem dX11_findRound_165 : decode cX11_findRound 165 = .ok (.iinc 1 1, 3) := by decide +kernel
theorem dX11_findRound_168 : decode cX11_findRound 168 = .ok (.goto (-137), 3) := by decide +kernel
theorem dX11_findRound_171 : decode cX11_findRound 171 = .ok (.aload_n 0, 1) := by decide +kernel
theorem dX11_findRound_172 : decode cX11_findRound 172 = .ok (.iconst 0, 1) := by decide +kernel
theorem dX11_findRound_173 : decode cX11_findRound 173 = .ok (.putfield 274, 3) := by decide +kernel
theorem dX11_findRound_176 : decode cX11_findRound 176 = .ok (.return_, 1) := by decide +kernel
theorem dX11_ever_0 : decode cX11_ever 0 = .ok (.aload_n 0, 1) := by decide +kernel
theorem dX11_ever_1 : decode cX11_ever 1 = .ok (.iconst 0, 1) := by decide +kernel
theorem dX11_ever_2 : decode cX11_ever 2 = .ok (.putfield 104, 3) := by decide +kernel
theorem dX11_ever_5 : decode cX11_ever 5 = .ok (.aload_n 0, 1) := by decide +kernel
theorem dX11_ever_6 : decode cX11_ever 6 = .ok (.iload_n 1, 1) := by decide +kernel
theorem dX11_ever_7 : decode cX11_ever 7 = .ok (.iconst 0, 1) := by decide +kernel
theorem dX11_ever_8 : decode cX11_ever 8 = .ok (.iconst 3, 1) := by decide +kernel
theorem dX11_ever_9 : decode cX11_ever 9 = .ok (.invokestatic 138, 3) := by decide +kernel
theorem dX11_ever_12 : decode cX11_ever 12 = .ok (.ifCond .ne 7, 3) := by decide +kernel
theorem dX11_ever_15 : decode cX11_ever 15 = .ok (.iconst 1, 1) := by decide +kernel
theorem dX11_ever_16 : decode cX11_ever 16 = .ok (.goto 4, 3) := by decide +kernel
theorem dX11_ever_19 : decode cX11_ever 19 = .ok (.iconst 0, 1) := by decide +kernel
theorem dX11_ever_20 : decode cX11_ever 20 = .ok (.iconst 1, 1) := by decide +kernel
theorem dX11_ever_21 : decode cX11_ever 21 = .ok (.invokevirtual 181, 3) := by decide +kernel
theorem dX11_ever_24 : decode cX11_ever 24 = .ok (.ifCond .ne 23, 3) := by decide +kernel
theorem dX11_ever_27 : decode cX11_ever 27 = .ok (.aload_n 0, 1) := by decide +kernel
theorem dX11_ever_28 : decode cX11_ever 28 = .ok (.aload_n 0, 1) := by decide +kernel
theorem dX11_ever_29 : decode cX11_ever 29 = .ok (.getfield 191, 3) := by decide +kernel
theorem dX11_ever_32 : decode cX11_ever 32 = .ok (.ifCond .ne 7, 3) := by decide +kernel
theorem dX11_ever_35 : decode cX11_ever 35 = .ok (.iconst 1, 1) := by decide +kernel
theorem dX11_ever_36 : decode cX11_ever 36 = .ok (.goto 4, 3) := by decide +kernel
theorem dX11_ever_39 : decode cX11_ever 39 = .ok (.iconst 0, 1) := by decide +kernel
theorem dX11_ever_40 : decode cX11_ever 40 = .ok (.iconst 2, 1) := by decide +kernel
theorem dX11_ever_41 : decode cX11_ever 41 = .ok (.invokevirtual 181, 3) := by decide +kernel
theorem dX11_ever_44 : decode cX11_ever 44 = .ok (.ifCond .eq 5, 3) := by decide +kernel
theorem dX11_ever_47 : decode cX11_ever 47 = .ok (.iconst 0, 1) := by decide +kernel
theorem dX11_ever_48 : decode cX11_ever 48 = .ok (.ireturn, 1) := by decide +kernel
theorem dX11_ever_49 : decode cX11_ever 49 = .ok (.aload_n 0, 1) := by decide +kernel
theorem dX11_ever_50 : decode cX11_ever 50 = .ok (.invokevirtual 327, 3) := by decide +kernel
theorem dX11_ever_53 : decode cX11_ever 53 = .ok (.iload_n 1, 1) := by decide +kernel
theorem dX11_ever_54 : decode cX11_ever 54 = .ok (.ifCond .ne 27, 3) := by decide +kernel
theorem dX11_ever_57 : decode cX11_ever 57 = .ok (.aload_n 0, 1) := by decide +kernel
theorem dX11_ever_58 : decode cX11_ever 58 = .ok (.getfield 315, 3) := by decide +kernel
theorem dX11_ever_61 : decode cX11_ever 61 = .ok (.iconst (-1), 1) := by decide +kernel
theorem dX11_ever_62 : decode cX11_ever 62 = .ok (.if_icmp .eq 15, 3) := by decide +kernel
theorem dX11_ever_65 : decode cX11_ever 65 = .ok (.aload_n 0, 1) := by decide +kernel
theorem dX11_ever_66 : decode cX11_ever 66 = .ok (.getfield 321, 3) := by decide +kernel
theorem dX11_ever_69 : decode cX11_ever 69 = .ok (.iconst (-1), 1) := by decide +kernel
theorem dX11_ever_70 : decode cX11_ever 70 = .ok (.if_icmp .ne 7, 3) := by decide +kernel
theorem dX11_ever_73 : decode cX11_ever 73 = .ok (.iconst 1, 1) := by decide +kernel
theorem dX11_ever_74 : decode cX11_ever 74 = .ok (.goto 35, 3) := by decide +kernel
theorem dX11_ever_77 : decode cX11_ever 77 = .ok (.iconst 0, 1) := by decide +kernel
theorem dX11_ever_78 : decode cX11_ever 78 = .ok (.goto 31, 3) := by decide +kernel
theorem dX11_ever_81 : decode cX11_ever 81 = .ok (.iload_n 1, 1) := by decide +kernel
theorem dX11_ever_82 : decode cX11_ever 82 = .ok (.iconst 1, 1) := by decide +kernel
theorem dX11_ever_83 : decode cX11_ever 83 = .ok (.if_icmp .ne 10, 3) := by decide +kernel
theorem dX11_ever_86 : decode cX11_ever 86 = .ok (.aload_n 0, 1) := by decide +kernel
theorem dX11_ever_87 : decode cX11_ever 87 = .ok (.getfield 315, 3) := by decide +kernel
theorem dX11_ever_90 : decode cX11_ever 90 = .ok (.goto 19, 3) := by decide +kernel
theorem dX11_ever_93 : decode cX11_ever 93 = .ok (.iload_n 1, 1) := by decide +kernel
theorem dX11_ever_94 : decode cX11_ever 94 = .ok (.iconst 2, 1) := by decide +kernel
theorem dX11_ever_95 : decode cX11_ever 95 = .ok (.if_icmp .ne 10, 3) := by decide +kernel
theorem dX11_ever_98 : decode cX11_ever 98 = .ok (.aload_n 0, 1) := by decide +kernel
theorem dX11_ever_99 : decode cX11_ever 99 = .ok (.getfield 318, 3) := by decide +kernel
theorem dX11_ever_102 : decode cX11_ever 102 = .ok (.goto 7, 3) := by decide +kernel
theorem dX11_ever_105 : decode cX11_ever 105 = .ok (.aload_n 0, 1) := by decide +kernel
theorem dX11_ever_106 : decode cX11_ever 106 = .ok (.getfield 321, 3) := by decide +kernel
theorem dX11_ever_109 : decode cX11_ever 109 = .ok (.ireturn, 1) := by decide +kernel
theorem dX11_fewest_0 : decode cX11_fewest 0 = .ok (.aload_n 0, 1) := by decide +kernel
theorem dX11_fewest_1 : decode cX11_fewest 1 = .ok (.iconst 0, 1) := by decide +kernel
theorem dX11_fewest_2 : decode cX11_fewest 2 = .ok (.putfield 104, 3) := by decide +kernel
theorem dX11_fewest_5 : decode cX11_fewest 5 = .ok (.aload_n 0, 1) := by decide +kernel
theorem dX11_fewest_6 : decode cX11_fewest 6 = .ok (.iload_n 1, 1) := by decide +kernel
theorem dX11_fewest_7 : decode cX11_fewest 7 = .ok (.iconst 1, 1) := by decide +kernel
theorem dX11_fewest_8 : decode cX11_fewest 8 = .ok (.bipush 99, 2) := by decide +kernel
theorem dX11_fewest_10 : decode cX11_fewest 10 = .ok (.invokestatic 138, 3) := by decide +kernel
theorem dX11_fewest_13 : decode cX11_fewest 13 = .ok (.ifCond .eq 22, 3) := by decide +kernel
theorem dX11_fewest_16 : decode cX11_fewest 16 = .ok (.iload_n 2, 1) := by decide +kernel
theorem dX11_fewest_17 : decode cX11_fewest 17 = .ok (.iconst 1, 1) := by decide +kernel
theorem dX11_fewest_18 : decode cX11_fewest 18 = .ok (.bipush 99, 2) := by decide +kernel
theorem dX11_fewest_20 : decode cX11_fewest 20 = .ok (.invokestatic 138, 3) := by decide +kernel
theorem dX11_fewest_23 : decode cX11_fewest 23 = .ok (.ifCond .eq 12, 3) := by decide +kernel
theorem dX11_fewest_26 : decode cX11_fewest 26 = .ok (.iload_n 3, 1) := by decide +kernel
theorem dX11_fewest_27 : decode cX11_fewest 27 = .ok (.iconst 0, 1) := by decide +kernel
theorem dX11_fewest_28 : decode cX11_fewest 28 = .ok (.iconst 2, 1) := by decide +kernel
theorem dX11_fewest_29 : decode cX11_fewest 29 = .ok (.invokestatic 138, 3) := by decide +kernel
theorem dX11_fewest_32 : decode cX11_fewest 32 = .ok (.ifCond .ne 7, 3) := by decide +kernel
theorem dX11_fewest_35 : decode cX11_fewest 35 = .ok (.iconst 1, 1) := by decide +kernel
theorem dX11_fewest_36 : decode cX11_fewest 36 = .ok (.goto 4, 3) := by decide +kernel
theorem dX11_fewest_39 : decode cX11_fewest 39 = .ok (.iconst 0, 1) := by decide +kernel
theorem dX11_fewest_40 : decode cX11_fewest 40 = .ok (.iconst 1, 1) := by decide +kernel
theorem dX11_fewest_41 : decode cX11_fewest 41 = .ok (.invokevirtual 181, 3) := by decide +kernel
theorem dX11_fewest_44 : decode cX11_fewest 44 = .ok (.ifCond .eq 5, 3) := by decide +kernel
theorem dX11_fewest_47 : decode cX11_fewest 47 = .ok (.iconst 0, 1) := by decide +kernel
theorem dX11_fewest_48 : decode cX11_fewest 48 = .ok (.ireturn, 1) := by decide +kernel
theorem dX11_fewest_49 : decode cX11_fewest 49 = .ok (.iload_n 2, 1) := by decide +kernel
theorem dX11_fewest_50 : decode cX11_fewest 50 = .ok (.iload_n 1, 1) := by decide +kernel
theorem dX11_fewest_51 : decode cX11_fewest 51 = .ok (.idiv, 1) := by decide +kernel
theorem dX11_fewest_52 : decode cX11_fewest 52 = .ok (.istore 4, 2) := by decide +kernel
theorem dX11_fewest_54 : decode cX11_fewest 54 = .ok (.iload 4, 2) := by decide +kernel
theorem dX11_fewest_56 : decode cX11_fewest 56 = .ok (.ifCond .ne 5, 3) := by decide +kernel
theorem dX11_fewest_59 : decode cX11_fewest 59 = .ok (.iconst (-1), 1) := by decide +kernel
theorem dX11_fewest_60 : decode cX11_fewest 60 = .ok (.ireturn, 1) := by decide +kernel
theorem dX11_fewest_61 : decode cX11_fewest 61 = .ok (.iconst 1, 1) := by decide +kernel
theorem dX11_fewest_62 : decode cX11_fewest 62 = .ok (.aload_n 0, 1) := by decide +kernel
theorem dX11_fewest_63 : decode cX11_fewest 63 = .ok (.getfield 20, 3) := by decide +kernel
theorem dX11_fewest_66 : decode cX11_fewest 66 = .ok (.iconst 5, 1) := by decide +kernel
theorem dX11_fewest_67 : decode cX11_fewest 67 = .ok (.iaload, 1) := by decide +kernel
theorem dX11_fewest_68 : decode cX11_fewest 68 = .ok (.iload 4, 2) := by decide +kernel
theorem dX11_fewest_70 : decode cX11_fewest 70 = .ok (.iadd, 1) := by decide +kernel
theorem dX11_fewest_71 : decode cX11_fewest 71 = .ok (.iconst 1, 1) := by decide +kernel
theorem dX11_fewest_72 : decode cX11_fewest 72 = .ok (.isub, 1) := by decide +kernel
theorem dX11_fewest_73 : decode cX11_fewest 73 = .ok (.iload 4, 2) := by decide +kernel
theorem dX11_fewest_75 : decode cX11_fewest 75 = .ok (.idiv, 1) := by decide +kernel
theorem dX11_fewest_76 : decode cX11_fewest 76 = .ok (.iadd, 1) := by decide +kernel
theorem dX11_fewest_77 : decode cX11_fewest 77 = .ok (.istore 5, 2) := by decide +kernel
theorem dX11_fewest_79 : decode cX11_fewest 79 = .ok (.iload_n 3, 1) := by decide +kernel
theorem dX11_fewest_80 : decode cX11_fewest 80 = .ok (.ifCond .ne 8, 3) := by decide +kernel
theorem dX11_fewest_83 : decode cX11_fewest 83 = .ok (.iload 5, 2) := by decide +kernel
theorem dX11_fewest_85 : decode cX11_fewest 85 = .ok (.goto 18, 3) := by decide +kernel
theorem dX11_fewest_88 : decode cX11_fewest 88 = .ok (.iload_n 3, 1) := by decide +kernel
theorem dX11_fewest_89 : decode cX11_fewest 89 = .ok (.iconst 1, 1) := by decide +kernel
theorem dX11_fewest_90 : decode cX11_fewest 90 = .ok (.if_icmp .ne 8, 3) := by decide +kernel
theorem dX11_fewest_93 : decode cX11_fewest 93 = .ok (.iload 4, 2) := by decide +kernel
theorem dX11_fewest_95 : decode cX11_fewest 95 = .ok (.goto 8, 3) := by decide +kernel
theorem dX11_fewest_98 : decode cX11_fewest 98 = .ok (.iload 5, 2) := by decide +kernel
theorem dX11_fewest_100 : decode cX11_fewest 100 = .ok (.iload 4, 2) := by decide +kernel
theorem dX11_fewest_102 : decode cX11_fewest 102 = .ok (.imul, 1) := by decide +kernel
theorem dX11_fewest_103 : decode cX11_fewest 103 = .ok (.ireturn, 1) := by decide +kernel
theorem dX11_lasts_0 : decode cX11_lasts 0 = .ok (.aload_n 0, 1) := by decide +kernel
theorem dX11_lasts_1 : decode cX11_lasts 1 = .ok (.iconst 0, 1) := by decide +kernel
theorem dX11_lasts_2 : decode cX11_lasts 2 = .ok (.putfield 104, 3) := by decide +kernel
theorem dX11_lasts_5 : decode cX11_lasts 5 = .ok (.aload_n 0, 1) := by decide +kernel
theorem dX11_lasts_6 : decode cX11_lasts 6 = .ok (.iload_n 1, 1) := by decide +kernel
theorem dX11_lasts_7 : decode cX11_lasts 7 = .ok (.iconst 1, 1) := by decide +kernel
theorem dX11_lasts_8 : decode cX11_lasts 8 = .ok (.iconst 4, 1) := by decide +kernel
theorem dX11_lasts_9 : decode cX11_lasts 9 = .ok (.invokestatic 138, 3) := by decide +kernel
theorem dX11_lasts_12 : decode cX11_lasts 12 = .ok (.ifCond .eq 25, 3) := by decide +kernel
theorem dX11_lasts_15 : decode cX11_lasts 15 = .ok (.iload_n 2, 1) := by decide +kernel
theorem dX11_lasts_16 : decode cX11_lasts 16 = .ok (.iconst 1, 1) := by decide +kernel
theorem dX11_lasts_17 : decode cX11_lasts 17 = .ok (.bipush 99, 2) := by decide +kernel
theorem dX11_lasts_19 : decode cX11_lasts 19 = .ok (.invokestatic 138, 3) := by decide +kernel
theorem dX11_lasts_22 : decode cX11_lasts 22 = .ok (.ifCond .eq 15, 3) := by decide +kernel
theorem dX11_lasts_25 : decode cX11_lasts 25 = .ok (.iload_n 3, 1) := by decide +kernel
theorem dX11_lasts_26 : decode cX11_lasts 26 = .ok (.iconst 1, 1) := by decide +kernel
theorem dX11_lasts_27 : decode cX11_lasts 27 = .ok (.bipush 9, 2) := by decide +kernel
theorem dX11_lasts_29 : decode cX11_lasts 29 = .ok (.iload_n 2, 1) := by decide +kernel
theorem dX11_lasts_30 : decode cX11_lasts 30 = .ok (.imul, 1) := by decide +kernel
theorem dX11_lasts_31 : decode cX11_lasts 31 = .ok (.invokestatic 138, 3) := by decide +kernel
theorem dX11_lasts_34 : decode cX11_lasts 34 = .ok (.ifCond .ne 7, 3) := by decide +kernel
theorem dX11_lasts_37 : decode cX11_lasts 37 = .ok (.iconst 1, 1) := by decide +kernel
theorem dX11_lasts_38 : decode cX11_lasts 38 = .ok (.goto 4, 3) := by decide +kernel
theorem dX11_lasts_41 : decode cX11_lasts 41 = .ok (.iconst 0, 1) := by decide +kernel
theorem dX11_lasts_42 : decode cX11_lasts 42 = .ok (.iconst 1, 1) := by decide +kernel
theorem dX11_lasts_43 : decode cX11_lasts 43 = .ok (.invokevirtual 181, 3) := by decide +kernel
theorem dX11_lasts_46 : decode cX11_lasts 46 = .ok (.ifCond .eq 5, 3) := by decide +kernel
theorem dX11_lasts_49 : decode cX11_lasts 49 = .ok (.iconst 0, 1) := by decide +kernel
theorem dX11_lasts_50 : decode cX11_lasts 50 = .ok (.ireturn, 1) := by decide +kernel
theorem dX11_lasts_51 : decode cX11_lasts 51 = .ok (.iload_n 3, 1) := by decide +kernel
theorem dX11_lasts_52 : decode cX11_lasts 52 = .ok (.iload_n 2, 1) := by decide +kernel
theorem dX11_lasts_53 : decode cX11_lasts 53 = .ok (.idiv, 1) := by decide +kernel
theorem dX11_lasts_54 : decode cX11_lasts 54 = .ok (.istore 4, 2) := by decide +kernel
theorem dX11_lasts_56 : decode cX11_lasts 56 = .ok (.iload_n 1, 1) := by decide +kernel
theorem dX11_lasts_57 : decode cX11_lasts 57 = .ok (.iconst 1, 1) := by decide +kernel
theorem dX11_lasts_58 : decode cX11_lasts 58 = .ok (.isub, 1) := by decide +kernel
theorem dX11_lasts_59 : decode cX11_lasts 59 = .ok (.iload 4, 2) := by decide +kernel
theorem dX11_lasts_61 : decode cX11_lasts 61 = .ok (.imul, 1) := by decide +kernel
theorem dX11_lasts_62 : decode cX11_lasts 62 = .ok (.aload_n 0, 1) := by decide +kernel
theorem dX11_lasts_63 : decode cX11_lasts 63 = .ok (.getfield 20, 3) := by decide +kernel
theorem dX11_lasts_66 : decode cX11_lasts 66 = .ok (.iconst 5, 1) := by decide +kernel
theorem dX11_lasts_67 : decode cX11_lasts 67 = .ok (.iaload, 1) := by decide +kernel
theorem dX11_lasts_68 : decode cX11_lasts 68 = .ok (.if_icmp .lt 7, 3) := by decide +kernel
theorem dX11_lasts_71 : decode cX11_lasts 71 = .ok (.iconst (-1), 1) := by decide +kernel
theorem dX11_lasts_72 : decode cX11_lasts 72 = .ok (.goto 7, 3) := by decide +kernel
theorem dX11_lasts_75 : decode cX11_lasts 75 = .ok (.iload_n 1, 1) := by decide +kernel
theorem dX11_lasts_76 : decode cX11_lasts 76 = .ok (.iload 4, 2) := by decide +kernel
theorem dX11_lasts_78 : decode cX11_lasts 78 = .ok (.imul, 1) := by decide +kernel
theorem dX11_lasts_79 : decode cX11_lasts 79 = .ok (.ireturn, 1) := by decide +kernel
theorem dX11_tries_0 : decode cX11_tries 0 = .ok (.aload_n 0, 1) := by decide +kernel
theorem dX11_tries_1 : decode cX11_tries 1 = .ok (.getfield 239, 3) := by decide +kernel
theorem dX11_tries_4 : decode cX11_tries 4 = .ok (.aload_n 0, 1) := by decide +kernel
theorem dX11_tries_5 : decode cX11_tries 5 = .ok (.getfield 330, 3) := by decide +kernel
theorem dX11_tries_8 : decode cX11_tries 8 = .ok (.lcmp, 1) := by decide +kernel
theorem dX11_tries_9 : decode cX11_tries 9 = .ok (.ifCond .lt 4, 3) := by decide +kernel
theorem dX11_tries_12 : decode cX11_tries 12 = .ok (.return_, 1) := by decide +kernel
theorem dX11_tries_13 : decode cX11_tries 13 = .ok (.iload_n 1, 1) := by decide +kernel
theorem dX11_tries_14 : decode cX11_tries 14 = .ok (.ifCond .ne 17, 3) := by decide +kernel
theorem dX11_tries_17 : decode cX11_tries 17 = .ok (.aload_n 0, 1) := by decide +kernel
theorem dX11_tries_18 : decode cX11_tries 18 = .ok (.aload_n 0, 1) := by decide +kernel
theorem dX11_tries_19 : decode cX11_tries 19 = .ok (.getfield 239, 3) := by decide +kernel
theorem dX11_tries_22 : decode cX11_tries 22 = .ok (.putfield 330, 3) := by decide +kernel
theorem dX11_tries_25 : decode cX11_tries 25 = .ok (.aload_n 0, 1) := by decide +kernel
theorem dX11_tries_26 : decode cX11_tries 26 = .ok (.iload_n 2, 1) := by decide +kernel
theorem dX11_tries_27 : decode cX11_tries 27 = .ok (.putfield 333, 3) := by decide +kernel
theorem dX11_tries_30 : decode cX11_tries 30 = .ok (.return_, 1) := by decide +kernel
theorem dX11_tries_31 : decode cX11_tries 31 = .ok (.aload_n 0, 1) := by decide +kernel
theorem dX11_tries_32 : decode cX11_tries 32 = .ok (.getfield 239, 3) := by decide +kernel
theorem dX11_tries_35 : decode cX11_tries 35 = .ok (.lstore_n 3, 1) := by decide +kernel
theorem dX11_tries_36 : decode cX11_tries 36 = .ok (.aload_n 0, 1) := by decide +kernel
theorem dX11_tries_37 : decode cX11_tries 37 = .ok (.getfield 230, 3) := by decide +kernel
theorem dX11_tries_40 : decode cX11_tries 40 = .ok (.istore 5, 2) := by decide +kernel
theorem dX11_tries_42 : decode cX11_tries 42 = .ok (.iconst 0, 1) := by decide +kernel
theorem dX11_tries_43 : decode cX11_tries 43 = .ok (.istore 6, 2) := by decide +kernel
theorem dX11_tries_45 : decode cX11_tries 45 = .ok (.iload 6, 2) := by decide +kernel
theorem dX11_tries_47 : decode cX11_tries 47 = .ok (.aload_n 0, 1) := by decide +kernel
theorem dX11_tries_48 : decode cX11_tries 48 = .ok (.getfield 204, 3) := by decide +kernel
theorem dX11_tries_51 : decode cX11_tries 51 = .ok (.if_icmp .ge 41, 3) := by decide +kernel
theorem dX11_tries_54 : decode cX11_tries 54 = .ok (.aload_n 0, 1) := by decide +kernel
theorem dX11_tries_55 : decode cX11_tries 55 = .ok (.getfield 98, 3) := by decide +kernel
theorem dX11_tries_58 : decode cX11_tries 58 = .ok (.iload_n 1, 1) := by decide +kernel
theorem dX11_tries_59 : decode cX11_tries 59 = .ok (.aaload, 1) := by decide +kernel
theorem dX11_tries_60 : decode cX11_tries 60 = .ok (.iload 6, 2) := by decide +kernel
theorem dX11_tries_62 : decode cX11_tries 62 = .ok (.aload_n 0, 1) := by decide +kernel
theorem dX11_tries_63 : decode cX11_tries 63 = .ok (.getfield 61, 3) := by decide +kernel
theorem dX11_tries_66 : decode cX11_tries 66 = .ok (.iload 6, 2) := by decide +kernel
theorem dX11_tries_68 : decode cX11_tries 68 = .ok (.iaload, 1) := by decide +kernel
theorem dX11_tries_69 : decode cX11_tries 69 = .ok (.iastore, 1) := by decide +kernel
theorem dX11_tries_70 : decode cX11_tries 70 = .ok (.aload_n 0, 1) := by decide +kernel
theorem dX11_tries_71 : decode cX11_tries 71 = .ok (.getfield 101, 3) := by decide +kernel
theorem dX11_tries_74 : decode cX11_tries 74 = .ok (.iload_n 1, 1) := by decide +kernel
theorem dX11_tries_75 : decode cX11_tries 75 = .ok (.aaload, 1) := by decide +kernel
theorem dX11_tries_76 : decode cX11_tries 76 = .ok (.iload 6, 2) := by decide +kernel
theorem dX11_tries_78 : decode cX11_tries 78 = .ok (.aload_n 0, 1) := by decide +kernel
theorem dX11_tries_79 : decode cX11_tries 79 = .ok (.getfield 64, 3) := by decide +kernel
theorem dX11_tries_82 : decode cX11_tries 82 = .ok (.iload 6, 2) := by decide +kernel
theorem dX11_tries_84 : decode cX11_tries 84 = .ok (.iaload, 1) := by decide +kernel
theorem dX11_tries_85 : decode cX11_tries 85 = .ok (.iastore, 1) := by decide +kernel
theorem dX11_tries_86 : decode cX11_tries 86 = .ok (.iinc 6 1, 3) := by decide +kernel
theorem dX11_tries_89 : decode cX11_tries 89 = .ok (.goto (-44), 3) := by decide +kernel
theorem dX11_tries_92 : decode cX11_tries 92 = .ok (.iconst 0, 1) := by decide +kernel
theorem dX11_tries_93 : decode cX11_tries 93 = .ok (.istore 6, 2) := by decide +kernel
theorem dX11_tries_95 : decode cX11_tries 95 = .ok (.iload 6, 2) := by decide +kernel
theorem dX11_tries_97 : decode cX11_tries 97 = .ok (.iconst 1, 1) := by decide +kernel
theorem dX11_tries_98 : decode cX11_tries 98 = .ok (.aload_n 0, 1) := by decide +kernel
theorem dX11_tries_99 : decode cX11_tries 99 = .ok (.getfield 204, 3) := by decide +kernel
theorem dX11_tries_102 : decode cX11_tries 102 = .ok (.ishl, 1) := by decide +kernel
theorem dX11_tries_103 : decode cX11_tries 103 = .ok (.if_icmp .ge 94, 3) := by decide +kernel
theorem dX11_tries_106 : decode cX11_tries 106 = .ok (.aload_n 0, 1) := by decide +kernel
theorem dX11_tries_107 : decode cX11_tries 107 = .ok (.iload 6, 2) := by decide +kernel
theorem dX11_tries_109 : decode cX11_tries 109 = .ok (.invokevirtual 293, 3) := by decide +kernel
theorem dX11_tries_112 : decode cX11_tries 112 = .ok (.aload_n 0, 1) := by decide +kernel
theorem dX11_tries_113 : decode cX11_tries 113 = .ok (.iload_n 1, 1) := by decide +kernel
theorem dX11_tries_114 : decode cX11_tries 114 = .ok (.iconst 1, 1) := by decide +kernel
theorem dX11_tries_115 : decode cX11_tries 115 = .ok (.isub, 1) := by decide +kernel
theorem dX11_tries_116 : decode cX11_tries 116 = .ok (.iload_n 2, 1) := by decide +kernel
theorem dX11_tries_117 : decode cX11_tries 117 = .ok (.iconst (-1), 1) := by decide +kernel
theorem dX11_tries_118 : decode cX11_tries 118 = .ok (.if_icmp .ne 8, 3) := by decide +kernel
theorem dX11_tries_121 : decode cX11_tries 121 = .ok (.iload 6, 2) := by decide +kernel
theorem dX11_tries_123 : decode cX11_tries 123 = .ok (.goto 4, 3) := by decide +kernel
theorem dX11_tries_126 : decode cX11_tries 126 = .ok (.iload_n 2, 1) := by decide +kernel
theorem dX11_tries_127 : decode cX11_tries 127 = .ok (.invokevirtual 336, 3) := by decide +kernel
theorem dX11_tries_130 : decode cX11_tries 130 = .ok (.aload_n 0, 1) := by decide +kernel
theorem dX11_tries_131 : decode cX11_tries 131 = .ok (.lload_n 3, 1) := by decide +kernel
theorem dX11_tries_132 : decode cX11_tries 132 = .ok (.putfield 239, 3) := by decide +kernel
theorem dX11_tries_135 : decode cX11_tries 135 = .ok (.aload_n 0, 1) := by decide +kernel
theorem dX11_tries_136 : decode cX11_tries 136 = .ok (.iload 5, 2) := by decide +kernel
theorem dX11_tries_138 : decode cX11_tries 138 = .ok (.putfield 230, 3) := by decide +kernel
theorem dX11_tries_141 : decode cX11_tries 141 = .ok (.iconst 0, 1) := by decide +kernel
theorem dX11_tries_142 : decode cX11_tries 142 = .ok (.istore 7, 2) := by decide +kernel
theorem dX11_tries_144 : decode cX11_tries 144 = .ok (.iload 7, 2) := by decide +kernel
theorem dX11_tries_146 : decode cX11_tries 146 = .ok (.aload_n 0, 1) := by decide +kernel
theorem dX11_tries_147 : decode cX11_tries 147 = .ok (.getfield 204, 3) := by decide +kernel
theorem dX11_tries_150 : decode cX11_tries 150 = .ok (.if_icmp .ge 41, 3) := by decide +kernel
theorem dX11_tries_153 : decode cX11_tries 153 = .ok (.aload_n 0, 1) := by decide +kernel
theorem dX11_tries_154 : decode cX11_tries 154 = .ok (.getfield 61, 3) := by decide +kernel
theorem dX11_tries_157 : decode cX11_tries 157 = .ok (.iload 7, 2) := by decide +kernel
theorem dX11_tries_159 : decode cX11_tries 159 = .ok (.aload_n 0, 1) := by decide +kernel
theorem dX11_tries_160 : decode cX11_tries 160 = .ok (.getfield 98, 3) := by decide +kernel
theorem dX11_tries_163 : decode cX11_tries 163 = .ok (.iload_n 1, 1) := by decide +kernel
theorem dX11_tries_164 : decode cX11_tries 164 = .ok (.aaload, 1) := by decide +kernel
theorem dX11_tries_165 : decode cX11_tries 165 = .ok (.iload 7, 2) := by decide +kernel
theorem dX11_tries_167 : decode cX11_tries 167 = .ok (.iaload, 1) := by decide +kernel
theorem dX11_tries_168 : decode cX11_tries 168 = .ok (.iastore, 1) := by decide +kernel
theorem dX11_tries_169 : decode cX11_tries 169 = .ok (.aload_n 0, 1) := by decide +kernel
theorem dX11_tries_170 : decode cX11_tries 170 = .ok (.getfield 64, 3) := by decide +kernel
theorem dX11_tries_173 : decode cX11_tries 173 = .ok (.iload 7, 2) := by decide +kernel
theorem dX11_tries_175 : decode cX11_tries 175 = .ok (.aload_n 0, 1) := by decide +kernel
theorem dX11_tries_176 : decode cX11_tries 176 = .ok (.getfield 101, 3) := by decide +kernel
theorem dX11_tries_179 : decode cX11_tries 179 = .ok (.iload_n 1, 1) := by decide +kernel
theorem dX11_tries_180 : decode cX11_tries 180 = .ok (.aaload, 1) := by decide +kernel
theorem dX11_tries_181 : decode cX11_tries 181 = .ok (.iload 7, 2) := by decide +kernel
theorem dX11_tries_183 : decode cX11_tries 183 = .ok (.iaload, 1) := by decide +kernel
theorem dX11_tries_184 : decode cX11_tries 184 = .ok (.iastore, 1) := by decide +kernel
theorem dX11_tries_185 : decode cX11_tries 185 = .ok (.iinc 7 1, 3) := by decide +kernel
theorem dX11_tries_188 : decode cX11_tries 188 = .ok (.goto (-44), 3) := by decide +kernel
theorem dX11_tries_191 : decode cX11_tries 191 = .ok (.iinc 6 1, 3) := by decide +kernel
theorem dX11_tries_194 : decode cX11_tries 194 = .ok (.goto (-99), 3) := by decide +kernel
theorem dX11_tries_197 : decode cX11_tries 197 = .ok (.return_, 1) := by decide +kernel
theorem dX11_findBest_0 : decode cX11_findBest 0 = .ok (.aload_n 0, 1) := by decide +kernel
theorem dX11_findBest_1 : decode cX11_findBest 1 = .ok (.invokevirtual 255, 3) := by decide +kernel
theorem dX11_findBest_4 : decode cX11_findBest 4 = .ok (.aload_n 0, 1) := by decide +kernel
theorem dX11_findBest_5 : decode cX11_findBest 5 = .ok (.ldc2_w 339, 3) := by decide +kernel
theorem dX11_findBest_8 : decode cX11_findBest 8 = .ok (.putfield 330, 3) := by decide +kernel
theorem dX11_findBest_11 : decode cX11_findBest 11 = .ok (.aload_n 0, 1) := by decide +kernel
theorem dX11_findBest_12 : decode cX11_findBest 12 = .ok (.iconst (-1), 1) := by decide +kernel
theorem dX11_findBest_13 : decode cX11_findBest 13 = .ok (.putfield 333, 3) := by decide +kernel
theorem dX11_findBest_16 : decode cX11_findBest 16 = .ok (.aload_n 0, 1) := by decide +kernel
theorem dX11_findBest_17 : decode cX11_findBest 17 = .ok (.iload_n 1, 1) := by decide +kernel
theorem dX11_findBest_18 : decode cX11_findBest 18 = .ok (.iconst (-1), 1) := by decide +kernel
theorem dX11_findBest_19 : decode cX11_findBest 19 = .ok (.invokevirtual 336, 3) := by decide +kernel
theorem dX11_findBest_22 : decode cX11_findBest 22 = .ok (.return_, 1) := by decide +kernel
theorem dX11_best_0 : decode cX11_best 0 = .ok (.aload_n 0, 1) := by decide +kernel
theorem dX11_best_1 : decode cX11_best 1 = .ok (.iconst 0, 1) := by decide +kernel
theorem dX11_best_2 : decode cX11_best 2 = .ok (.putfield 104, 3) := by decide +kernel
theorem dX11_best_5 : decode cX11_best 5 = .ok (.aload_n 0, 1) := by decide +kernel
theorem dX11_best_6 : decode cX11_best 6 = .ok (.iload_n 1, 1) := by decide +kernel
theorem dX11_best_7 : decode cX11_best 7 = .ok (.iconst 1, 1) := by decide +kernel
theorem dX11_best_8 : decode cX11_best 8 = .ok (.iconst 3, 1) := by decide +kernel
theorem dX11_best_9 : decode cX11_best 9 = .ok (.invokestatic 138, 3) := by decide +kernel
theorem dX11_best_12 : decode cX11_best 12 = .ok (.ifCond .eq 12, 3) := by decide +kernel
theorem dX11_best_15 : decode cX11_best 15 = .ok (.iload_n 2, 1) := by decide +kernel
theorem dX11_best_16 : decode cX11_best 16 = .ok (.iconst 0, 1) := by decide +kernel
theorem dX11_best_17 : decode cX11_best 17 = .ok (.iconst 1, 1) := by decide +kernel
theorem dX11_best_18 : decode cX11_best 18 = .ok (.invokestatic 138, 3) := by decide +kernel
theorem dX11_best_21 : decode cX11_best 21 = .ok (.ifCond .ne 7, 3) := by decide +kernel
theorem dX11_best_24 : decode cX11_best 24 = .ok (.iconst 1, 1) := by decide +kernel
theorem dX11_best_25 : decode cX11_best 25 = .ok (.goto 4, 3) := by decide +kernel
theorem dX11_best_28 : decode cX11_best 28 = .ok (.iconst 0, 1) := by decide +kernel
theorem dX11_best_29 : decode cX11_best 29 = .ok (.iconst 1, 1) := by decide +kernel
theorem dX11_best_30 : decode cX11_best 30 = .ok (.invokevirtual 181, 3) := by decide +kernel
theorem dX11_best_33 : decode cX11_best 33 = .ok (.ifCond .eq 5, 3) := by decide +kernel
theorem dX11_best_36 : decode cX11_best 36 = .ok (.iconst 0, 1) := by decide +kernel
theorem dX11_best_37 : decode cX11_best 37 = .ok (.ireturn, 1) := by decide +kernel
theorem dX11_best_38 : decode cX11_best 38 = .ok (.aload_n 0, 1) := by decide +kernel
theorem dX11_best_39 : decode cX11_best 39 = .ok (.getfield 20, 3) := by decide +kernel
theorem dX11_best_42 : decode cX11_best 42 = .ok (.iconst 1, 1) := by decide +kernel
theorem dX11_best_43 : decode cX11_best 43 = .ok (.iaload, 1) := by decide +kernel
theorem dX11_best_44 : decode cX11_best 44 = .ok (.bipush 6, 2) := by decide +kernel
theorem dX11_best_46 : decode cX11_best 46 = .ok (.if_icmp .le 6, 3) := by decide +kernel
theorem dX11_best_49 : decode cX11_best 49 = .ok (.bipush (-2), 2) := by decide +kernel
theorem dX11_best_51 : decode cX11_best 51 = .ok (.ireturn, 1) := by decide +kernel
theorem dX11_best_52 : decode cX11_best 52 = .ok (.aload_n 0, 1) := by decide +kernel
theorem dX11_best_53 : decode cX11_best 53 = .ok (.iload_n 1, 1) := by decide +kernel
theorem dX11_best_54 : decode cX11_best 54 = .ok (.invokevirtual 341, 3) := by decide +kernel
theorem dX11_best_57 : decode cX11_best 57 = .ok (.iload_n 2, 1) := by decide +kernel
theorem dX11_best_58 : decode cX11_best 58 = .ok (.ifCond .ne 11, 3) := by decide +kernel
theorem dX11_best_61 : decode cX11_best 61 = .ok (.aload_n 0, 1) := by decide +kernel
theorem dX11_best_62 : decode cX11_best 62 = .ok (.getfield 330, 3) := by decide +kernel
theorem dX11_best_65 : decode cX11_best 65 = .ok (.l2i, 1) := by decide +kernel
theorem dX11_best_66 : decode cX11_best 66 = .ok (.goto 7, 3) := by decide +kernel
theorem dX11_best_69 : decode cX11_best 69 = .ok (.aload_n 0, 1) := by decide +kernel
theorem dX11_best_70 : decode cX11_best 70 = .ok (.getfield 333, 3) := by decide +kernel
theorem dX11_best_73 : decode cX11_best 73 = .ok (.ireturn, 1) := by decide +kernel
theorem dX11_gap_0 : decode cX11_gap 0 = .ok (.aload_n 0, 1) := by decide +kernel
theorem dX11_gap_1 : decode cX11_gap 1 = .ok (.iconst 0, 1) := by decide +kernel
theorem dX11_gap_2 : decode cX11_gap 2 = .ok (.putfield 104, 3) := by decide +kernel
theorem dX11_gap_5 : decode cX11_gap 5 = .ok (.aload_n 0, 1) := by decide +kernel
theorem dX11_gap_6 : decode cX11_gap 6 = .ok (.iload_n 1, 1) := by decide +kernel
theorem dX11_gap_7 : decode cX11_gap 7 = .ok (.iconst 1, 1) := by decide +kernel
theorem dX11_gap_8 : decode cX11_gap 8 = .ok (.iconst 3, 1) := by decide +kernel
theorem dX11_gap_9 : decode cX11_gap 9 = .ok (.invokestatic 138, 3) := by decide +kernel
theorem dX11_gap_12 : decode cX11_gap 12 = .ok (.ifCond .ne 7, 3) := by decide +kernel
theorem dX11_gap_15 : decode cX11_gap 15 = .ok (.iconst 1, 1) := by decide +kernel
theorem dX11_gap_16 : decode cX11_gap 16 = .ok (.goto 4, 3) := by decide +kernel
theorem dX11_gap_19 : decode cX11_gap 19 = .ok (.iconst 0, 1) := by decide +kernel
theorem dX11_gap_20 : decode cX11_gap 20 = .ok (.iconst 1, 1) := by decide +kernel
theorem dX11_gap_21 : decode cX11_gap 21 = .ok (.invokevirtual 181, 3) := by decide +kernel
theorem dX11_gap_24 : decode cX11_gap 24 = .ok (.ifCond .eq 5, 3) := by decide +kernel
theorem dX11_gap_27 : decode cX11_gap 27 = .ok (.iconst 0, 1) := by decide +kernel
theorem dX11_gap_28 : decode cX11_gap 28 = .ok (.ireturn, 1) := by decide +kernel
theorem dX11_gap_29 : decode cX11_gap 29 = .ok (.aload_n 0, 1) := by decide +kernel
theorem dX11_gap_30 : decode cX11_gap 30 = .ok (.getfield 20, 3) := by decide +kernel
theorem dX11_gap_33 : decode cX11_gap 33 = .ok (.iconst 1, 1) := by decide +kernel
theorem dX11_gap_34 : decode cX11_gap 34 = .ok (.iaload, 1) := by decide +kernel
theorem dX11_gap_35 : decode cX11_gap 35 = .ok (.bipush 6, 2) := by decide +kernel
theorem dX11_gap_37 : decode cX11_gap 37 = .ok (.if_icmp .le 6, 3) := by decide +kernel
theorem dX11_gap_40 : decode cX11_gap 40 = .ok (.bipush (-2), 2) := by decide +kernel
theorem dX11_gap_42 : decode cX11_gap 42 = .ok (.ireturn, 1) := by decide +kernel
theorem dX11_gap_43 : decode cX11_gap 43 = .ok (.aload_n 0, 1) := by decide +kernel
theorem dX11_gap_44 : decode cX11_gap 44 = .ok (.iload_n 1, 1) := by decide +kernel
theorem dX11_gap_45 : decode cX11_gap 45 = .ok (.invokevirtual 341, 3) := by decide +kernel
theorem dX11_gap_48 : decode cX11_gap 48 = .ok (.aload_n 0, 1) := by decide +kernel
theorem dX11_gap_49 : decode cX11_gap 49 = .ok (.iload_n 1, 1) := by decide +kernel
theorem dX11_gap_50 : decode cX11_gap 50 = .ok (.invokevirtual 344, 3) := by decide +kernel
theorem dX11_gap_53 : decode cX11_gap 53 = .ok (.aload_n 0, 1) := by decide +kernel
theorem dX11_gap_54 : decode cX11_gap 54 = .ok (.getfield 330, 3) := by decide +kernel
theorem dX11_gap_57 : decode cX11_gap 57 = .ok (.lsub, 1) := by decide +kernel
theorem dX11_gap_58 : decode cX11_gap 58 = .ok (.l2i, 1) := by decide +kernel
theorem dX11_gap_59 : decode cX11_gap 59 = .ok (.ireturn, 1) := by decide +kernel
theorem dX11_openCost_0 : decode cX11_openCost 0 = .ok (.aload_n 0, 1) := by decide +kernel
theorem dX11_openCost_1 : decode cX11_openCost 1 = .ok (.invokevirtual 255, 3) := by decide +kernel
theorem dX11_openCost_4 : decode cX11_openCost 4 = .ok (.aload_n 0, 1) := by decide +kernel
theorem dX11_openCost_5 : decode cX11_openCost 5 = .ok (.iconst 0, 1) := by decide +kernel
theorem dX11_openCost_6 : decode cX11_openCost 6 = .ok (.iload_n 1, 1) := by decide +kernel
theorem dX11_openCost_7 : decode cX11_openCost 7 = .ok (.invokevirtual 305, 3) := by decide +kernel
theorem dX11_openCost_10 : decode cX11_openCost 10 = .ok (.aload_n 0, 1) := by decide +kernel
theorem dX11_openCost_11 : decode cX11_openCost 11 = .ok (.getfield 239, 3) := by decide +kernel
theorem dX11_openCost_14 : decode cX11_openCost 14 = .ok (.lreturn, 1) := by decide +kernel
theorem dX11_tollCost_0 : decode cX11_tollCost 0 = .ok (.aload_n 0, 1) := by decide +kernel
theorem dX11_tollCost_1 : decode cX11_tollCost 1 = .ok (.iload_n 1, 1) := by decide +kernel
theorem dX11_tollCost_2 : decode cX11_tollCost 2 = .ok (.putfield 214, 3) := by decide +kernel
theorem dX11_tollCost_5 : decode cX11_tollCost 5 = .ok (.aload_n 0, 1) := by decide +kernel
theorem dX11_tollCost_6 : decode cX11_tollCost 6 = .ok (.iload_n 2, 1) := by decide +kernel
theorem dX11_tollCost_7 : decode cX11_tollCost 7 = .ok (.invokevirtual 344, 3) := by decide +kernel
theorem dX11_tollCost_10 : decode cX11_tollCost 10 = .ok (.lstore_n 3, 1) := by decide +kernel
theorem dX11_tollCost_11 : decode cX11_tollCost 11 = .ok (.aload_n 0, 1) := by decide +kernel
theorem dX11_tollCost_12 : decode cX11_tollCost 12 = .ok (.iconst 0, 1) := by decide +kernel
theorem dX11_tollCost_13 : decode cX11_tollCost 13 = .ok (.putfield 214, 3) := by decide +kernel
theorem dX11_tollCost_16 : decode cX11_tollCost 16 = .ok (.lload_n 3, 1) := by decide +kernel
theorem dX11_tollCost_17 : decode cX11_tollCost 17 = .ok (.lreturn, 1) := by decide +kernel
theorem dX11_toll_0 : decode cX11_toll 0 = .ok (.aload_n 0, 1) := by decide +kernel
theorem dX11_toll_1 : decode cX11_toll 1 = .ok (.iconst 0, 1) := by decide +kernel
theorem dX11_toll_2 : decode cX11_toll 2 = .ok (.putfield 104, 3) := by decide +kernel
theorem dX11_toll_5 : decode cX11_toll 5 = .ok (.aload_n 0, 1) := by decide +kernel
theorem dX11_toll_6 : decode cX11_toll 6 = .ok (.iload_n 1, 1) := by decide +kernel
theorem dX11_toll_7 : decode cX11_toll 7 = .ok (.iconst 0, 1) := by decide +kernel
theorem dX11_toll_8 : decode cX11_toll 8 = .ok (.bipush 20, 2) := by decide +kernel
theorem dX11_toll_10 : decode cX11_toll 10 = .ok (.invokestatic 138, 3) := by decide +kernel
theorem dX11_toll_13 : decode cX11_toll 13 = .ok (.ifCond .eq 19, 3) := by decide +kernel
theorem dX11_toll_16 : decode cX11_toll 16 = .ok (.iload_n 2, 1) := by decide +kernel
theorem dX11_toll_17 : decode cX11_toll 17 = .ok (.invokestatic 299, 3) := by decide +kernel
theorem dX11_toll_20 : decode cX11_toll 20 = .ok (.ifCond .eq 12, 3) := by decide +kernel
theorem dX11_toll_23 : decode cX11_toll 23 = .ok (.iload_n 3, 1) := by decide +kernel
theorem dX11_toll_24 : decode cX11_toll 24 = .ok (.iconst 0, 1) := by decide +kernel
theorem dX11_toll_25 : decode cX11_toll 25 = .ok (.iconst 1, 1) := by decide +kernel
theorem dX11_toll_26 : decode cX11_toll 26 = .ok (.invokestatic 138, 3) := by decide +kernel
theorem dX11_toll_29 : decode cX11_toll 29 = .ok (.ifCond .ne 7, 3) := by decide +kernel
theorem dX11_toll_32 : decode cX11_toll 32 = .ok (.iconst 1, 1) := by decide +kernel
theorem dX11_toll_33 : decode cX11_toll 33 = .ok (.goto 4, 3) := by decide +kernel
theorem dX11_toll_36 : decode cX11_toll 36 = .ok (.iconst 0, 1) := by decide +kernel
theorem dX11_toll_37 : decode cX11_toll 37 = .ok (.iconst 1, 1) := by decide +kernel
theorem dX11_toll_38 : decode cX11_toll 38 = .ok (.invokevirtual 181, 3) := by decide +kernel
theorem dX11_toll_41 : decode cX11_toll 41 = .ok (.ifCond .eq 5, 3) := by decide +kernel
theorem dX11_toll_44 : decode cX11_toll 44 = .ok (.lconst 0, 1) := by decide +kernel
theorem dX11_toll_45 : decode cX11_toll 45 = .ok (.lreturn, 1) := by decide +kernel
theorem dX11_toll_46 : decode cX11_toll 46 = .ok (.aload_n 0, 1) := by decide +kernel
theorem dX11_toll_47 : decode cX11_toll 47 = .ok (.iload_n 1, 1) := by decide +kernel
theorem dX11_toll_48 : decode cX11_toll 48 = .ok (.iload_n 2, 1) := by decide +kernel
theorem dX11_toll_49 : decode cX11_toll 49 = .ok (.invokevirtual 348, 3) := by decide +kernel
theorem dX11_toll_52 : decode cX11_toll 52 = .ok (.lstore 4, 2) := by decide +kernel
theorem dX11_toll_54 : decode cX11_toll 54 = .ok (.iload_n 3, 1) := by decide +kernel
theorem dX11_toll_55 : decode cX11_toll 55 = .ok (.ifCond .ne 8, 3) := by decide +kernel
theorem dX11_toll_58 : decode cX11_toll 58 = .ok (.lload 4, 2) := by decide +kernel
theorem dX11_toll_60 : decode cX11_toll 60 = .ok (.goto 7, 3) := by decide +kernel
theorem dX11_toll_63 : decode cX11_toll 63 = .ok (.aload_n 0, 1) := by decide +kernel
theorem dX11_toll_64 : decode cX11_toll 64 = .ok (.getfield 243, 3) := by decide +kernel
theorem dX11_toll_67 : decode cX11_toll 67 = .ok (.lreturn, 1) := by decide +kernel
theorem dX11_keep_0 : decode cX11_keep 0 = .ok (.aload_n 0, 1) := by decide +kernel
theorem dX11_keep_1 : decode cX11_keep 1 = .ok (.iconst 0, 1) := by decide +kernel
theorem dX11_keep_2 : decode cX11_keep 2 = .ok (.putfield 104, 3) := by decide +kernel
theorem dX11_keep_5 : decode cX11_keep 5 = .ok (.aload_n 0, 1) := by decide +kernel
theorem dX11_keep_6 : decode cX11_keep 6 = .ok (.iload_n 1, 1) := by decide +kernel
theorem dX11_keep_7 : decode cX11_keep 7 = .ok (.invokestatic 299, 3) := by decide +kernel
theorem dX11_keep_10 : decode cX11_keep 10 = .ok (.ifCond .ne 7, 3) := by decide +kernel
theorem dX11_keep_13 : decode cX11_keep 13 = .ok (.iconst 1, 1) := by decide +kernel
theorem dX11_keep_14 : decode cX11_keep 14 = .ok (.goto 4, 3) := by decide +kernel
theorem dX11_keep_17 : decode cX11_keep 17 = .ok (.iconst 0, 1) := by decide +kernel
theorem dX11_keep_18 : decode cX11_keep 18 = .ok (.iconst 1, 1) := by decide +kernel
theorem dX11_keep_19 : decode cX11_keep 19 = .ok (.invokevirtual 181, 3) := by decide +kernel
theorem dX11_keep_22 : decode cX11_keep 22 = .ok (.ifCond .eq 5, 3) := by decide +kernel
theorem dX11_keep_25 : decode cX11_keep 25 = .ok (.iconst 0, 1) := by decide +kernel
theorem dX11_keep_26 : decode cX11_keep 26 = .ok (.ireturn, 1) := by decide +kernel
theorem dX11_keep_27 : decode cX11_keep 27 = .ok (.iconst 0, 1) := by decide +kernel
theorem dX11_keep_28 : decode cX11_keep 28 = .ok (.istore_n 2, 1) := by decide +kernel
theorem dX11_keep_29 : decode cX11_keep 29 = .ok (.aload_n 0, 1) := by decide +kernel
theorem dX11_keep_30 : decode cX11_keep 30 = .ok (.iconst 0, 1) := by decide +kernel
theorem dX11_keep_31 : decode cX11_keep 31 = .ok (.iload_n 1, 1) := by decide +kernel
theorem dX11_keep_32 : decode cX11_keep 32 = .ok (.invokevirtual 348, 3) := by decide +kernel
theorem dX11_keep_35 : decode cX11_keep 35 = .ok (.lstore_n 3, 1) := by decide +kernel
theorem dX11_keep_36 : decode cX11_keep 36 = .ok (.iconst 1, 1) := by decide +kernel
theorem dX11_keep_37 : decode cX11_keep 37 = .ok (.istore 5, 2) := by decide +kernel
theorem dX11_keep_39 : decode cX11_keep 39 = .ok (.iload 5, 2) := by decide +kernel
theorem dX11_keep_41 : decode cX11_keep 41 = .ok (.bipush 20, 2) := by decide +kernel
theorem dX11_keep_43 : decode cX11_keep 43 = .ok (.if_icmp .gt 34, 3) := by decide +kernel
theorem dX11_keep_46 : decode cX11_keep 46 = .ok (.aload_n 0, 1) := by decide +kernel
theorem dX11_keep_47 : decode cX11_keep 47 = .ok (.iload 5, 2) := by decide +kernel
theorem dX11_keep_49 : decode cX11_keep 49 = .ok (.iload_n 1, 1) := by decide +kernel
theorem dX11_keep_50 : decode cX11_keep 50 = .ok (.invokevirtual 348, 3) := by decide +kernel
theorem dX11_keep_53 : decode cX11_keep 53 = .ok (.lstore 6, 2) := by decide +kernel
theorem dX11_keep_55 : decode cX11_keep 55 = .ok (.lload 6, 2) := by decide +kernel
theorem dX11_keep_57 : decode cX11_keep 57 = .ok (.lload_n 3, 1) := by decide +kernel
theorem dX11_keep_58 : decode cX11_keep 58 = .ok (.lcmp, 1) := by decide +kernel
theorem dX11_keep_59 : decode cX11_keep 59 = .ok (.ifCond .lt 6, 3) := by decide +kernel
theorem dX11_keep_62 : decode cX11_keep 62 = .ok (.goto 9, 3) := by decide +kernel
theorem dX11_keep_65 : decode cX11_keep 65 = .ok (.iload 5, 2) := by decide +kernel
theorem dX11_keep_67 : decode cX11_keep 67 = .ok (.istore_n 2, 1) := by decide +kernel
theorem dX11_keep_68 : decode cX11_keep 68 = .ok (.lload 6, 2) := by decide +kernel
theorem dX11_keep_70 : decode cX11_keep 70 = .ok (.lstore_n 3, 1) := by decide +kernel
theorem dX11_keep_71 : decode cX11_keep 71 = .ok (.iinc 5 1, 3) := by decide +kernel
theorem dX11_keep_74 : decode cX11_keep 74 = .ok (.goto (-35), 3) := by decide +kernel
theorem dX11_keep_77 : decode cX11_keep 77 = .ok (.iload_n 2, 1) := by decide +kernel
theorem dX11_keep_78 : decode cX11_keep 78 = .ok (.ireturn, 1) := by decide +kernel
theorem dX11_othersCost_0 : decode cX11_othersCost 0 = .ok (.aload_n 0, 1) := by decide +kernel
theorem dX11_othersCost_1 : decode cX11_othersCost 1 = .ok (.iload_n 1, 1) := by decide +kernel
theorem dX11_othersCost_2 : decode cX11_othersCost 2 = .ok (.putfield 88, 3) := by decide +kernel
theorem dX11_othersCost_5 : decode cX11_othersCost 5 = .ok (.aload_n 0, 1) := by decide +kernel
theorem dX11_othersCost_6 : decode cX11_othersCost 6 = .ok (.invokevirtual 255, 3) := by decide +kernel
theorem dX11_othersCost_9 : decode cX11_othersCost 9 = .ok (.aload_n 0, 1) := by decide +kernel
theorem dX11_othersCost_10 : decode cX11_othersCost 10 = .ok (.iload_n 2, 1) := by decide +kernel
theorem dX11_othersCost_11 : decode cX11_othersCost 11 = .ok (.iload_n 3, 1) := by decide +kernel
theorem dX11_othersCost_12 : decode cX11_othersCost 12 = .ok (.invokevirtual 305, 3) := by decide +kernel
theorem dX11_othersCost_15 : decode cX11_othersCost 15 = .ok (.aload_n 0, 1) := by decide +kernel
theorem dX11_othersCost_16 : decode cX11_othersCost 16 = .ok (.iconst (-1), 1) := by decide +kernel
theorem dX11_othersCost_17 : decode cX11_othersCost 17 = .ok (.putfield 88, 3) := by decide +kernel
theorem dX11_othersCost_20 : decode cX11_othersCost 20 = .ok (.aload_n 0, 1) := by decide +kernel
theorem dX11_othersCost_21 : decode cX11_othersCost 21 = .ok (.getfield 239, 3) := by decide +kernel
theorem dX11_othersCost_24 : decode cX11_othersCost 24 = .ok (.lreturn, 1) := by decide +kernel
theorem dX11_careless_0 : decode cX11_careless 0 = .ok (.aload_n 0, 1) := by decide +kernel
theorem dX11_careless_1 : decode cX11_careless 1 = .ok (.iconst 0, 1) := by decide +kernel
theorem dX11_careless_2 : decode cX11_careless 2 = .ok (.putfield 104, 3) := by decide +kernel
theorem dX11_careless_5 : decode cX11_careless 5 = .ok (.aload_n 0, 1) := by decide +kernel
theorem dX11_careless_6 : decode cX11_careless 6 = .ok (.aload_n 0, 1) := by decide +kernel
theorem dX11_careless_7 : decode cX11_careless 7 = .ok (.iload_n 1, 1) := by decide +kernel
theorem dX11_careless_8 : decode cX11_careless 8 = .ok (.invokevirtual 200, 3) := by decide +kernel
theorem dX11_careless_11 : decode cX11_careless 11 = .ok (.ifCond .ne 7, 3) := by decide +kernel
theorem dX11_careless_14 : decode cX11_careless 14 = .ok (.iconst 1, 1) := by decide +kernel
theorem dX11_careless_15 : decode cX11_careless 15 = .ok (.goto 4, 3) := by decide +kernel
theorem dX11_careless_18 : decode cX11_careless 18 = .ok (.iconst 0, 1) := by decide +kernel
theorem dX11_careless_19 : decode cX11_careless 19 = .ok (.iconst 1, 1) := by decide +kernel
theorem dX11_careless_20 : decode cX11_careless 20 = .ok (.invokevirtual 181, 3) := by decide +kernel
theorem dX11_careless_23 : decode cX11_careless 23 = .ok (.ifCond .ne 43, 3) := by decide +kernel
theorem dX11_careless_26 : decode cX11_careless 26 = .ok (.aload_n 0, 1) := by decide +kernel
theorem dX11_careless_27 : decode cX11_careless 27 = .ok (.iload_n 2, 1) := by decide +kernel
theorem dX11_careless_28 : decode cX11_careless 28 = .ok (.invokestatic 299, 3) := by decide +kernel
theorem dX11_careless_31 : decode cX11_careless 31 = .ok (.ifCond .ne 7, 3) := by decide +kernel
theorem dX11_careless_34 : decode cX11_careless 34 = .ok (.iconst 1, 1) := by decide +kernel
theorem dX11_careless_35 : decode cX11_careless 35 = .ok (.goto 4, 3) := by decide +kernel
theorem dX11_careless_38 : decode cX11_careless 38 = .ok (.iconst 0, 1) := by decide +kernel
theorem dX11_careless_39 : decode cX11_careless 39 = .ok (.iconst 2, 1) := by decide +kernel
theorem dX11_careless_40 : decode cX11_careless 40 = .ok (.invokevirtual 181, 3) := by decide +kernel
theorem dX11_careless_43 : decode cX11_careless 43 = .ok (.ifCond .ne 23, 3) := by decide +kernel
theorem dX11_careless_46 : decode cX11_careless 46 = .ok (.aload_n 0, 1) := by decide +kernel
theorem dX11_careless_47 : decode cX11_careless 47 = .ok (.aload_n 0, 1) := by decide +kernel
theorem dX11_careless_48 : decode cX11_careless 48 = .ok (.getfield 191, 3) := by decide +kernel
theorem dX11_careless_51 : decode cX11_careless 51 = .ok (.ifCond .ne 7, 3) := by decide +kernel
theorem dX11_careless_54 : decode cX11_careless 54 = .ok (.iconst 1, 1) := by decide +kernel
theorem dX11_careless_55 : decode cX11_careless 55 = .ok (.goto 4, 3) := by decide +kernel
theorem dX11_careless_58 : decode cX11_careless 58 = .ok (.iconst 0, 1) := by decide +kernel
theorem dX11_careless_59 : decode cX11_careless 59 = .ok (.iconst 3, 1) := by decide +kernel
theorem dX11_careless_60 : decode cX11_careless 60 = .ok (.invokevirtual 181, 3) := by decide +kernel
theorem dX11_careless_63 : decode cX11_careless 63 = .ok (.ifCond .eq 5, 3) := by decide +kernel
theorem dX11_careless_66 : decode cX11_careless 66 = .ok (.lconst 0, 1) := by decide +kernel
theorem dX11_careless_67 : decode cX11_careless 67 = .ok (.lreturn, 1) := by decide +kernel
theorem dX11_careless_68 : decode cX11_careless 68 = .ok (.aload_n 0, 1) := by decide +kernel
theorem dX11_careless_69 : decode cX11_careless 69 = .ok (.iload_n 1, 1) := by decide +kernel
theorem dX11_careless_70 : decode cX11_careless 70 = .ok (.iconst 1, 1) := by decide +kernel
theorem dX11_careless_71 : decode cX11_careless 71 = .ok (.iload_n 2, 1) := by decide +kernel
theorem dX11_careless_72 : decode cX11_careless 72 = .ok (.invokevirtual 352, 3) := by decide +kernel
theorem dX11_careless_75 : decode cX11_careless 75 = .ok (.lstore_n 3, 1) := by decide +kernel
theorem dX11_careless_76 : decode cX11_careless 76 = .ok (.aload_n 0, 1) := by decide +kernel
theorem dX11_careless_77 : decode cX11_careless 77 = .ok (.iload_n 1, 1) := by decide +kernel
theorem dX11_careless_78 : decode cX11_careless 78 = .ok (.putfield 70, 3) := by decide +kernel
theorem dX11_careless_81 : decode cX11_careless 81 = .ok (.aload_n 0, 1) := by decide +kernel
theorem dX11_careless_82 : decode cX11_careless 82 = .ok (.iload_n 1, 1) := by decide +kernel
theorem dX11_careless_83 : decode cX11_careless 83 = .ok (.iconst 1, 1) := by decide +kernel
theorem dX11_careless_84 : decode cX11_careless 84 = .ok (.iload_n 2, 1) := by decide +kernel
theorem dX11_careless_85 : decode cX11_careless 85 = .ok (.invokevirtual 352, 3) := by decide +kernel
theorem dX11_careless_88 : decode cX11_careless 88 = .ok (.lstore 5, 2) := by decide +kernel
theorem dX11_careless_90 : decode cX11_careless 90 = .ok (.aload_n 0, 1) := by decide +kernel
theorem dX11_careless_91 : decode cX11_careless 91 = .ok (.iconst (-1), 1) := by decide +kernel
theorem dX11_careless_92 : decode cX11_careless 92 = .ok (.putfield 70, 3) := by decide +kernel
theorem dX11_careless_95 : decode cX11_careless 95 = .ok (.lload 5, 2) := by decide +kernel
theorem dX11_careless_97 : decode cX11_careless 97 = .ok (.lload_n 3, 1) := by decide +kernel
theorem dX11_careless_98 : decode cX11_careless 98 = .ok (.lsub, 1) := by decide +kernel
theorem dX11_careless_99 : decode cX11_careless 99 = .ok (.lreturn, 1) := by decide +kernel
theorem dX11_each_0 : decode cX11_each 0 = .ok (.aload_n 0, 1) := by decide +kernel
theorem dX11_each_1 : decode cX11_each 1 = .ok (.iconst 0, 1) := by decide +kernel
theorem dX11_each_2 : decode cX11_each 2 = .ok (.putfield 104, 3) := by decide +kernel
theorem dX11_each_5 : decode cX11_each 5 = .ok (.aload_n 0, 1) := by decide +kernel
theorem dX11_each_6 : decode cX11_each 6 = .ok (.aload_n 0, 1) := by decide +kernel
theorem dX11_each_7 : decode cX11_each 7 = .ok (.iload_n 1, 1) := by decide +kernel
theorem dX11_each_8 : decode cX11_each 8 = .ok (.invokevirtual 200, 3) := by decide +kernel
theorem dX11_each_11 : decode cX11_each 11 = .ok (.ifCond .ne 7, 3) := by decide +kernel
theorem dX11_each_14 : decode cX11_each 14 = .ok (.iconst 1, 1) := by decide +kernel
theorem dX11_each_15 : decode cX11_each 15 = .ok (.goto 4, 3) := by decide +kernel
theorem dX11_each_18 : decode cX11_each 18 = .ok (.iconst 0, 1) := by decide +kernel
theorem dX11_each_19 : decode cX11_each 19 = .ok (.iconst 1, 1) := by decide +kernel
theorem dX11_each_20 : decode cX11_each 20 = .ok (.invokevirtual 181, 3) := by decide +kernel
theorem dX11_each_23 : decode cX11_each 23 = .ok (.ifCond .ne 23, 3) := by decide +kernel
theorem dX11_each_26 : decode cX11_each 26 = .ok (.aload_n 0, 1) := by decide +kernel
theorem dX11_each_27 : decode cX11_each 27 = .ok (.iload_n 2, 1) := by decide +kernel
theorem dX11_each_28 : decode cX11_each 28 = .ok (.invokestatic 299, 3) := by decide +kernel
theorem dX11_each_31 : decode cX11_each 31 = .ok (.ifCond .ne 7, 3) := by decide +kernel
theorem dX11_each_34 : decode cX11_each 34 = .ok (.iconst 1, 1) := by decide +kernel
theorem dX11_each_35 : decode cX11_each 35 = .ok (.goto 4, 3) := by decide +kernel
theorem dX11_each_38 : decode cX11_each 38 = .ok (.iconst 0, 1) := by decide +kernel
theorem dX11_each_39 : decode cX11_each 39 = .ok (.iconst 2, 1) := by decide +kernel
theorem dX11_each_40 : decode cX11_each 40 = .ok (.invokevirtual 181, 3) := by decide +kernel
theorem dX11_each_43 : decode cX11_each 43 = .ok (.ifCond .eq 5, 3) := by decide +kernel
theorem dX11_each_46 : decode cX11_each 46 = .ok (.lconst 0, 1) := by decide +kernel
theorem dX11_each_47 : decode cX11_each 47 = .ok (.lreturn, 1) := by decide +kernel
theorem dX11_each_48 : decode cX11_each 48 = .ok (.aload_n 0, 1) := by decide +kernel
theorem dX11_each_49 : decode cX11_each 49 = .ok (.iload_n 1, 1) := by decide +kernel
theorem dX11_each_50 : decode cX11_each 50 = .ok (.iconst 0, 1) := by decide +kernel
theorem dX11_each_51 : decode cX11_each 51 = .ok (.iload_n 2, 1) := by decide +kernel
theorem dX11_each_52 : decode cX11_each 52 = .ok (.invokevirtual 352, 3) := by decide +kernel
theorem dX11_each_55 : decode cX11_each 55 = .ok (.lstore_n 3, 1) := by decide +kernel
theorem dX11_each_56 : decode cX11_each 56 = .ok (.aload_n 0, 1) := by decide +kernel
theorem dX11_each_57 : decode cX11_each 57 = .ok (.iload_n 1, 1) := by decide +kernel
theorem dX11_each_58 : decode cX11_each 58 = .ok (.putfield 73, 3) := by decide +kernel
theorem dX11_each_61 : decode cX11_each 61 = .ok (.aload_n 0, 1) := by decide +kernel
theorem dX11_each_62 : decode cX11_each 62 = .ok (.iload_n 1, 1) := by decide +kernel
theorem dX11_each_63 : decode cX11_each 63 = .ok (.iconst 0, 1) := by decide +kernel
theorem dX11_each_64 : decode cX11_each 64 = .ok (.iload_n 2, 1) := by decide +kernel
theorem dX11_each_65 : decode cX11_each 65 = .ok (.invokevirtual 352, 3) := by decide +kernel
theorem dX11_each_68 : decode cX11_each 68 = .ok (.lstore 5, 2) := by decide +kernel
theorem dX11_each_70 : decode cX11_each 70 = .ok (.aload_n 0, 1) := by decide +kernel
theorem dX11_each_71 : decode cX11_each 71 = .ok (.iconst (-1), 1) := by decide +kernel
theorem dX11_each_72 : decode cX11_each 72 = .ok (.putfield 73, 3) := by decide +kernel
theorem dX11_each_75 : decode cX11_each 75 = .ok (.lload_n 3, 1) := by decide +kernel
theorem dX11_each_76 : decode cX11_each 76 = .ok (.lload 5, 2) := by decide +kernel
theorem dX11_each_78 : decode cX11_each 78 = .ok (.lsub, 1) := by decide +kernel
theorem dX11_each_79 : decode cX11_each 79 = .ok (.lreturn, 1) := by decide +kernel
theorem dX11_heldCost_0 : decode cX11_heldCost 0 = .ok (.aload_n 0, 1) := by decide +kernel
theorem dX11_heldCost_1 : decode cX11_heldCost 1 = .ok (.iload_n 1, 1) := by decide +kernel
theorem dX11_heldCost_2 : decode cX11_heldCost 2 = .ok (.putfield 76, 3) := by decide +kernel
theorem dX11_heldCost_5 : decode cX11_heldCost 5 = .ok (.aload_n 0, 1) := by decide +kernel
theorem dX11_heldCost_6 : decode cX11_heldCost 6 = .ok (.iload_n 2, 1) := by decide +kernel
theorem dX11_heldCost_7 : decode cX11_heldCost 7 = .ok (.putfield 261, 3) := by decide +kernel
theorem dX11_heldCost_10 : decode cX11_heldCost 10 = .ok (.aload_n 0, 1) := by decide +kernel
theorem dX11_heldCost_11 : decode cX11_heldCost 11 = .ok (.iload_n 3, 1) := by decide +kernel
theorem dX11_heldCost_12 : decode cX11_heldCost 12 = .ok (.invokevirtual 344, 3) := by decide +kernel
theorem dX11_heldCost_15 : decode cX11_heldCost 15 = .ok (.lstore 4, 2) := by decide +kernel
theorem dX11_heldCost_17 : decode cX11_heldCost 17 = .ok (.aload_n 0, 1) := by decide +kernel
theorem dX11_heldCost_18 : decode cX11_heldCost 18 = .ok (.iconst (-1), 1) := by decide +kernel
theorem dX11_heldCost_19 : decode cX11_heldCost 19 = .ok (.putfield 76, 3) := by decide +kernel
theorem dX11_heldCost_22 : decode cX11_heldCost 22 = .ok (.lload 4, 2) := by decide +kernel
theorem dX11_heldCost_24 : decode cX11_heldCost 24 = .ok (.lreturn, 1) := by decide +kernel
theorem dX11_hold_0 : decode cX11_hold 0 = .ok (.aload_n 0, 1) := by decide +kernel
theorem dX11_hold_1 : decode cX11_hold 1 = .ok (.iconst 0, 1) := by decide +kernel
theorem dX11_hold_2 : decode cX11_hold 2 = .ok (.putfield 104, 3) := by decide +kernel
theorem dX11_hold_5 : decode cX11_hold 5 = .ok (.aload_n 0, 1) := by decide +kernel
theorem dX11_hold_6 : decode cX11_hold 6 = .ok (.aload_n 0, 1) := by decide +kernel
theorem dX11_hold_7 : decode cX11_hold 7 = .ok (.iload_n 1, 1) := by decide +kernel
theorem dX11_hold_8 : decode cX11_hold 8 = .ok (.invokevirtual 200, 3) := by decide +kernel
theorem dX11_hold_11 : decode cX11_hold 11 = .ok (.ifCond .ne 7, 3) := by decide +kernel
theorem dX11_hold_14 : decode cX11_hold 14 = .ok (.iconst 1, 1) := by decide +kernel
theorem dX11_hold_15 : decode cX11_hold 15 = .ok (.goto 4, 3) := by decide +kernel
theorem dX11_hold_18 : decode cX11_hold 18 = .ok (.iconst 0, 1) := by decide +kernel
theorem dX11_hold_19 : decode cX11_hold 19 = .ok (.iconst 1, 1) := by decide +kernel
theorem dX11_hold_20 : decode cX11_hold 20 = .ok (.invokevirtual 181, 3) := by decide +kernel
theorem dX11_hold_23 : decode cX11_hold 23 = .ok (.ifCond .ne 39, 3) := by decide +kernel
theorem dX11_hold_26 : decode cX11_hold 26 = .ok (.aload_n 0, 1) := by decide +kernel
theorem dX11_hold_27 : decode cX11_hold 27 = .ok (.iload_n 2, 1) := by decide +kernel
theorem dX11_hold_28 : decode cX11_hold 28 = .ok (.iconst 1, 1) := by decide +kernel
theorem dX11_hold_29 : decode cX11_hold 29 = .ok (.aload_n 0, 1) := by decide +kernel
theorem dX11_hold_30 : decode cX11_hold 30 = .ok (.getfield 46, 3) := by decide +kernel
theorem dX11_hold_33 : decode cX11_hold 33 = .ok (.iload_n 1, 1) := by decide +kernel
theorem dX11_hold_34 : decode cX11_hold 34 = .ok (.aaload, 1) := by decide +kernel
theorem dX11_hold_35 : decode cX11_hold 35 = .ok (.iconst 5, 1) := by decide +kernel
theorem dX11_hold_36 : decode cX11_hold 36 = .ok (.iaload, 1) := by decide +kernel
theorem dX11_hold_37 : decode cX11_hold 37 = .ok (.invokestatic 138, 3) := by decide +kernel
theorem dX11_hold_40 : decode cX11_hold 40 = .ok (.ifCond .eq 10, 3) := by decide +kernel
theorem dX11_hold_43 : decode cX11_hold 43 = .ok (.iload_n 3, 1) := by decide +kernel
theorem dX11_hold_44 : decode cX11_hold 44 = .ok (.invokestatic 299, 3) := by decide +kernel
theorem dX11_hold_47 : decode cX11_hold 47 = .ok (.ifCond .ne 7, 3) := by decide +kernel
theorem dX11_hold_50 : decode cX11_hold 50 = .ok (.iconst 1, 1) := by decide +kernel
theorem dX11_hold_51 : decode cX11_hold 51 = .ok (.goto 4, 3) := by decide +kernel
theorem dX11_hold_54 : decode cX11_hold 54 = .ok (.iconst 0, 1) := by decide +kernel
theorem dX11_hold_55 : decode cX11_hold 55 = .ok (.iconst 2, 1) := by decide +kernel
theorem dX11_hold_56 : decode cX11_hold 56 = .ok (.invokevirtual 181, 3) := by decide +kernel
theorem dX11_hold_59 : decode cX11_hold 59 = .ok (.ifCond .eq 5, 3) := by decide +kernel
theorem dX11_hold_62 : decode cX11_hold 62 = .ok (.lconst 0, 1) := by decide +kernel
theorem dX11_hold_63 : decode cX11_hold 63 = .ok (.lreturn, 1) := by decide +kernel
theorem dX11_hold_64 : decode cX11_hold 64 = .ok (.aload_n 0, 1) := by decide +kernel
theorem dX11_hold_65 : decode cX11_hold 65 = .ok (.iload_n 3, 1) := by decide +kernel
theorem dX11_hold_66 : decode cX11_hold 66 = .ok (.invokevirtual 344, 3) := by decide +kernel
theorem dX11_hold_69 : decode cX11_hold 69 = .ok (.lstore 4, 2) := by decide +kernel
theorem dX11_hold_71 : decode cX11_hold 71 = .ok (.lload 4, 2) := by decide +kernel
theorem dX11_hold_73 : decode cX11_hold 73 = .ok (.aload_n 0, 1) := by decide +kernel
theorem dX11_hold_74 : decode cX11_hold 74 = .ok (.iload_n 1, 1) := by decide +kernel
theorem dX11_hold_75 : decode cX11_hold 75 = .ok (.iload_n 2, 1) := by decide +kernel
theorem dX11_hold_76 : decode cX11_hold 76 = .ok (.iload_n 3, 1) := by decide +kernel
theorem dX11_hold_77 : decode cX11_hold 77 = .ok (.invokevirtual 356, 3) := by decide +kernel
theorem dX11_hold_80 : decode cX11_hold 80 = .ok (.lsub, 1) := by decide +kernel
theorem dX11_hold_81 : decode cX11_hold 81 = .ok (.lreturn, 1) := by decide +kernel
theorem dX11_who_0 : decode cX11_who 0 = .ok (.aload_n 0, 1) := by decide +kernel
theorem dX11_who_1 : decode cX11_who 1 = .ok (.iconst 0, 1) := by decide +kernel
theorem dX11_who_2 : decode cX11_who 2 = .ok (.putfield 104, 3) := by decide +kernel
theorem dX11_who_5 : decode cX11_who 5 = .ok (.aload_n 0, 1) := by decide +kernel
theorem dX11_who_6 : decode cX11_who 6 = .ok (.iload_n 1, 1) := by decide +kernel
theorem dX11_who_7 : decode cX11_who 7 = .ok (.invokestatic 299, 3) := by decide +kernel
theorem dX11_who_10 : decode cX11_who 10 = .ok (.ifCond .ne 7, 3) := by decide +kernel
theorem dX11_who_13 : decode cX11_who 13 = .ok (.iconst 1, 1) := by decide +kernel
theorem dX11_who_14 : decode cX11_who 14 = .ok (.goto 4, 3) := by decide +kernel
theorem dX11_who_17 : decode cX11_who 17 = .ok (.iconst 0, 1) := by decide +kernel
theorem dX11_who_18 : decode cX11_who 18 = .ok (.iconst 1, 1) := by decide +kernel
theorem dX11_who_19 : decode cX11_who 19 = .ok (.invokevirtual 181, 3) := by decide +kernel
theorem dX11_who_22 : decode cX11_who 22 = .ok (.ifCond .eq 5, 3) := by decide +kernel
theorem dX11_who_25 : decode cX11_who 25 = .ok (.iconst 0, 1) := by decide +kernel
theorem dX11_who_26 : decode cX11_who 26 = .ok (.ireturn, 1) := by decide +kernel
theorem dX11_who_27 : decode cX11_who 27 = .ok (.iconst (-1), 1) := by decide +kernel
theorem dX11_who_28 : decode cX11_who 28 = .ok (.istore_n 2, 1) := by decide +kernel
theorem dX11_who_29 : decode cX11_who 29 = .ok (.aload_n 0, 1) := by decide +kernel
theorem dX11_who_30 : decode cX11_who 30 = .ok (.iload_n 1, 1) := by decide +kernel
theorem dX11_who_31 : decode cX11_who 31 = .ok (.invokevirtual 344, 3) := by decide +kernel
theorem dX11_who_34 : decode cX11_who 34 = .ok (.lstore_n 3, 1) := by decide +kernel
theorem dX11_who_35 : decode cX11_who 35 = .ok (.iconst 0, 1) := by decide +kernel
theorem dX11_who_36 : decode cX11_who 36 = .ok (.istore 5, 2) := by decide +kernel
theorem dX11_who_38 : decode cX11_who 38 = .ok (.iload 5, 2) := by decide +kernel
theorem dX11_who_40 : decode cX11_who 40 = .ok (.aload_n 0, 1) := by decide +kernel
theorem dX11_who_41 : decode cX11_who 41 = .ok (.getfield 20, 3) := by decide +kernel
theorem dX11_who_44 : decode cX11_who 44 = .ok (.iconst 3, 1) := by decide +kernel
theorem dX11_who_45 : decode cX11_who 45 = .ok (.iaload, 1) := by decide +kernel
theorem dX11_who_46 : decode cX11_who 46 = .ok (.if_icmp .ge 65, 3) := by decide +kernel
theorem dX11_who_49 : decode cX11_who 49 = .ok (.iconst 1, 1) := by decide +kernel
theorem dX11_who_50 : decode cX11_who 50 = .ok (.istore 6, 2) := by decide +kernel
theorem dX11_who_52 : decode cX11_who 52 = .ok (.iload 6, 2) := by decide +kernel
theorem dX11_who_54 : decode cX11_who 54 = .ok (.aload_n 0, 1) := by decide +kernel
theorem dX11_who_55 : decode cX11_who 55 = .ok (.getfield 46, 3) := by decide +kernel
theorem dX11_who_58 : decode cX11_who 58 = .ok (.iload 5, 2) := by decide +kernel
theorem dX11_who_60 : decode cX11_who 60 = .ok (.aaload, 1) := by decide +kernel
theorem dX11_who_61 : decode cX11_who 61 = .ok (.iconst 5, 1) := by decide +kernel
theorem dX11_who_62 : decode cX11_who 62 = .ok (.iaload, 1) := by decide +kernel
theorem dX11_who_63 : decode cX11_who 63 = .ok (.if_icmp .gt 42, 3) := by decide +kernel
theorem dX11_who_66 : decode cX11_who 66 = .ok (.aload_n 0, 1) := by decide +kernel
theorem dX11_who_67 : decode cX11_who 67 = .ok (.iload 5, 2) := by decide +kernel
theorem dX11_who_69 : decode cX11_who 69 = .ok (.iload 6, 2) := by decide +kernel
theorem dX11_who_71 : decode cX11_who 71 = .ok (.iload_n 1, 1) := by decide +kernel
theorem dX11_who_72 : decode cX11_who 72 = .ok (.invokevirtual 356, 3) := by decide +kernel
theorem dX11_who_75 : decode cX11_who 75 = .ok (.lstore 7, 2) := by decide +kernel
theorem dX11_who_77 : decode cX11_who 77 = .ok (.lload 7, 2) := by decide +kernel
theorem dX11_who_79 : decode cX11_who 79 = .ok (.lload_n 3, 1) := by decide +kernel
theorem dX11_who_80 : decode cX11_who 80 = .ok (.lcmp, 1) := by decide +kernel
theorem dX11_who_81 : decode cX11_who 81 = .ok (.ifCond .lt 6, 3) := by decide +kernel
theorem dX11_who_84 : decode cX11_who 84 = .ok (.goto 15, 3) := by decide +kernel
theorem dX11_who_87 : decode cX11_who 87 = .ok (.bipush 10, 2) := by decide +kernel
theorem dX11_who_89 : decode cX11_who 89 = .ok (.iload 5, 2) := by decide +kernel
theorem dX11_who_91 : decode cX11_who 91 = .ok (.imul, 1) := by decide +kernel
theorem dX11_who_92 : decode cX11_who 92 = .ok (.iload 6, 2) := by decide +kernel
theorem dX11_who_94 : decode cX11_who 94 = .ok (.iadd, 1) := by decide +kernel
theorem dX11_who_95 : decode cX11_who 95 = .ok (.istore_n 2, 1) := by decide +kernel
theorem dX11_who_96 : decode cX11_who 96 = .ok (.lload 7, 2) := by decide +kernel
theorem dX11_who_98 : decode cX11_who 98 = .ok (.lstore_n 3, 1) := by decide +kernel
theorem dX11_who_99 : decode cX11_who 99 = .ok (.iinc 6 1, 3) := by decide +kernel
theorem dX11_who_102 : decode cX11_who 102 = .ok (.goto (-50), 3) := by decide +kernel
theorem dX11_who_105 : decode cX11_who 105 = .ok (.iinc 5 1, 3) := by decide +kernel
theorem dX11_who_108 : decode cX11_who 108 = .ok (.goto (-70), 3) := by decide +kernel
theorem dX11_who_111 : decode cX11_who 111 = .ok (.iload_n 2, 1) := by decide +kernel
theorem dX11_who_112 : decode cX11_who 112 = .ok (.ireturn, 1) := by decide +kernel
theorem dX11_moreCost_0 : decode cX11_moreCost 0 = .ok (.aload_n 0, 1) := by decide +kernel
theorem dX11_moreCost_1 : decode cX11_moreCost 1 = .ok (.invokevirtual 255, 3) := by decide +kernel
theorem dX11_moreCost_4 : decode cX11_moreCost 4 = .ok (.iconst 0, 1) := by decide +kernel
theorem dX11_moreCost_5 : decode cX11_moreCost 5 = .ok (.istore_n 3, 1) := by decide +kernel
theorem dX11_moreCost_6 : decode cX11_moreCost 6 = .ok (.iload_n 3, 1) := by decide +kernel
theorem dX11_moreCost_7 : decode cX11_moreCost 7 = .ok (.iconst 5, 1) := by decide +kernel
theorem dX11_moreCost_8 : decode cX11_moreCost 8 = .ok (.if_icmp .ge 28, 3) := by decide +kernel
theorem dX11_moreCost_11 : decode cX11_moreCost 11 = .ok (.aload_n 0, 1) := by decide +kernel
theorem dX11_moreCost_12 : decode cX11_moreCost 12 = .ok (.getfield 34, 3) := by decide +kernel
theorem dX11_moreCost_15 : decode cX11_moreCost 15 = .ok (.aload_n 0, 1) := by decide +kernel
theorem dX11_moreCost_16 : decode cX11_moreCost 16 = .ok (.getfield 204, 3) := by decide +kernel
theorem dX11_moreCost_19 : decode cX11_moreCost 19 = .ok (.aaload, 1) := by decide +kernel
theorem dX11_moreCost_20 : decode cX11_moreCost 20 = .ok (.iload_n 3, 1) := by decide +kernel
theorem dX11_moreCost_21 : decode cX11_moreCost 21 = .ok (.aload_n 0, 1) := by decide +kernel
theorem dX11_moreCost_22 : decode cX11_moreCost 22 = .ok (.getfield 40, 3) := by decide +kernel
theorem dX11_moreCost_25 : decode cX11_moreCost 25 = .ok (.iload_n 1, 1) := by decide +kernel
theorem dX11_moreCost_26 : decode cX11_moreCost 26 = .ok (.aaload, 1) := by decide +kernel
theorem dX11_moreCost_27 : decode cX11_moreCost 27 = .ok (.iload_n 3, 1) := by decide +kernel
theorem dX11_moreCost_28 : decode cX11_moreCost 28 = .ok (.iaload, 1) := by decide +kernel
theorem dX11_moreCost_29 : decode cX11_moreCost 29 = .ok (.iastore, 1) := by decide +kernel
theorem dX11_moreCost_30 : decode cX11_moreCost 30 = .ok (.iinc 3 1, 3) := by decide +kernel
theorem dX11_moreCost_33 : decode cX11_moreCost 33 = .ok (.goto (-27), 3) := by decide +kernel
theorem dX11_moreCost_36 : decode cX11_moreCost 36 = .ok (.aload_n 0, 1) := by decide +kernel
theorem dX11_moreCost_37 : decode cX11_moreCost 37 = .ok (.getfield 61, 3) := by decide +kernel
theorem dX11_moreCost_40 : decode cX11_moreCost 40 = .ok (.aload_n 0, 1) := by decide +kernel
theorem dX11_moreCost_41 : decode cX11_moreCost 41 = .ok (.getfield 204, 3) := by decide +kernel
theorem dX11_moreCost_44 : decode cX11_moreCost 44 = .ok (.iconst 0, 1) := by decide +kernel
theorem dX11_moreCost_45 : decode cX11_moreCost 45 = .ok (.iastore, 1) := by decide +kernel
theorem dX11_moreCost_46 : decode cX11_moreCost 46 = .ok (.aload_n 0, 1) := by decide +kernel
theorem dX11_moreCost_47 : decode cX11_moreCost 47 = .ok (.getfield 64, 3) := by decide +kernel
theorem dX11_moreCost_50 : decode cX11_moreCost 50 = .ok (.aload_n 0, 1) := by decide +kernel
theorem dX11_moreCost_51 : decode cX11_moreCost 51 = .ok (.getfield 204, 3) := by decide +kernel
theorem dX11_moreCost_54 : decode cX11_moreCost 54 = .ok (.aload_n 0, 1) := by decide +kernel
theorem dX11_moreCost_55 : decode cX11_moreCost 55 = .ok (.getfield 20, 3) := by decide +kernel
theorem dX11_moreCost_58 : decode cX11_moreCost 58 = .ok (.iconst 5, 1) := by decide +kernel
theorem dX11_moreCost_59 : decode cX11_moreCost 59 = .ok (.iaload, 1) := by decide +kernel
theorem dX11_moreCost_60 : decode cX11_moreCost 60 = .ok (.iastore, 1) := by decide +kernel
theorem dX11_moreCost_61 : decode cX11_moreCost 61 = .ok (.aload_n 0, 1) := by decide +kernel
theorem dX11_moreCost_62 : decode cX11_moreCost 62 = .ok (.dup, 1) := by decide +kernel
theorem dX11_moreCost_63 : decode cX11_moreCost 63 = .ok (.getfield 204, 3) := by decide +kernel
theorem dX11_moreCost_66 : decode cX11_moreCost 66 = .ok (.iconst 1, 1) := by decide +kernel
theorem dX11_moreCost_67 : decode cX11_moreCost 67 = .ok (.iadd, 1) := by decide +kernel
theorem dX11_moreCost_68 : decode cX11_moreCost 68 = .ok (.putfield 204, 3) := by decide +kernel
theorem dX11_moreCost_71 : decode cX11_moreCost 71 = .ok (.aload_n 0, 1) := by decide +kernel
theorem dX11_moreCost_72 : decode cX11_moreCost 72 = .ok (.iconst 0, 1) := by decide +kernel
theorem dX11_moreCost_73 : decode cX11_moreCost 73 = .ok (.iload_n 2, 1) := by decide +kernel
theorem dX11_moreCost_74 : decode cX11_moreCost 74 = .ok (.invokevirtual 305, 3) := by decide +kernel
theorem dX11_moreCost_77 : decode cX11_moreCost 77 = .ok (.aload_n 0, 1) := by decide +kernel
theorem dX11_moreCost_78 : decode cX11_moreCost 78 = .ok (.getfield 239, 3) := by decide +kernel
theorem dX11_moreCost_81 : decode cX11_moreCost 81 = .ok (.lreturn, 1) := by decide +kernel
theorem dX11_more_0 : decode cX11_more 0 = .ok (.aload_n 0, 1) := by decide +kernel
theorem dX11_more_1 : decode cX11_more 1 = .ok (.iconst 0, 1) := by decide +kernel
theorem dX11_more_2 : decode cX11_more 2 = .ok (.putfield 104, 3) := by decide +kernel
theorem dX11_more_5 : decode cX11_more 5 = .ok (.aload_n 0, 1) := by decide +kernel
theorem dX11_more_6 : decode cX11_more 6 = .ok (.iload_n 1, 1) := by decide +kernel
theorem dX11_more_7 : decode cX11_more 7 = .ok (.iconst 0, 1) := by decide +kernel
theorem dX11_more_8 : decode cX11_more 8 = .ok (.aload_n 0, 1) := by decide +kernel
theorem dX11_more_9 : decode cX11_more 9 = .ok (.getfield 20, 3) := by decide +kernel
theorem dX11_more_12 : decode cX11_more 12 = .ok (.iconst 2, 1) := by decide +kernel
theorem dX11_more_13 : decode cX11_more 13 = .ok (.iaload, 1) := by decide +kernel
theorem dX11_more_14 : decode cX11_more 14 = .ok (.iconst 1, 1) := by decide +kernel
theorem dX11_more_15 : decode cX11_more 15 = .ok (.isub, 1) := by decide +kernel
theorem dX11_more_16 : decode cX11_more 16 = .ok (.invokestatic 138, 3) := by decide +kernel
theorem dX11_more_19 : decode cX11_more 19 = .ok (.ifCond .eq 10, 3) := by decide +kernel
theorem dX11_more_22 : decode cX11_more 22 = .ok (.iload_n 2, 1) := by decide +kernel
theorem dX11_more_23 : decode cX11_more 23 = .ok (.invokestatic 299, 3) := by decide +kernel
theorem dX11_more_26 : decode cX11_more 26 = .ok (.ifCond .ne 7, 3) := by decide +kernel
theorem dX11_more_29 : decode cX11_more 29 = .ok (.iconst 1, 1) := by decide +kernel
theorem dX11_more_30 : decode cX11_more 30 = .ok (.goto 4, 3) := by decide +kernel
theorem dX11_more_33 : decode cX11_more 33 = .ok (.iconst 0, 1) := by decide +kernel
theorem dX11_more_34 : decode cX11_more 34 = .ok (.iconst 1, 1) := by decide +kernel
theorem dX11_more_35 : decode cX11_more 35 = .ok (.invokevirtual 181, 3) := by decide +kernel
theorem dX11_more_38 : decode cX11_more 38 = .ok (.ifCond .eq 5, 3) := by decide +kernel
theorem dX11_more_41 : decode cX11_more 41 = .ok (.lconst 0, 1) := by decide +kernel
theorem dX11_more_42 : decode cX11_more 42 = .ok (.lreturn, 1) := by decide +kernel
theorem dX11_more_43 : decode cX11_more 43 = .ok (.aload_n 0, 1) := by decide +kernel
theorem dX11_more_44 : decode cX11_more 44 = .ok (.iload_n 2, 1) := by decide +kernel
theorem dX11_more_45 : decode cX11_more 45 = .ok (.invokevirtual 344, 3) := by decide +kernel
theorem dX11_more_48 : decode cX11_more 48 = .ok (.lstore_n 3, 1) := by decide +kernel
theorem dX11_more_49 : decode cX11_more 49 = .ok (.lload_n 3, 1) := by decide +kernel
theorem dX11_more_50 : decode cX11_more 50 = .ok (.aload_n 0, 1) := by decide +kernel
theorem dX11_more_51 : decode cX11_more 51 = .ok (.iload_n 1, 1) := by decide +kernel
theorem dX11_more_52 : decode cX11_more 52 = .ok (.iload_n 2, 1) := by decide +kernel
theorem dX11_more_53 : decode cX11_more 53 = .ok (.invokevirtual 359, 3) := by decide +kernel
theorem dX11_more_56 : decode cX11_more 56 = .ok (.lsub, 1) := by decide +kernel
theorem dX11_more_57 : decode cX11_more 57 = .ok (.lreturn, 1) := by decide +kernel
theorem dX11_which_0 : decode cX11_which 0 = .ok (.aload_n 0, 1) := by decide +kernel
theorem dX11_which_1 : decode cX11_which 1 = .ok (.iconst 0, 1) := by decide +kernel
theorem dX11_which_2 : decode cX11_which 2 = .ok (.putfield 104, 3) := by decide +kernel
theorem dX11_which_5 : decode cX11_which 5 = .ok (.aload_n 0, 1) := by decide +kernel
theorem dX11_which_6 : decode cX11_which 6 = .ok (.iload_n 1, 1) := by decide +kernel
theorem dX11_which_7 : decode cX11_which 7 = .ok (.invokestatic 299, 3) := by decide +kernel
theorem dX11_which_10 : decode cX11_which 10 = .ok (.ifCond .ne 7, 3) := by decide +kernel
theorem dX11_which_13 : decode cX11_which 13 = .ok (.iconst 1, 1) := by decide +kernel
theorem dX11_which_14 : decode cX11_which 14 = .ok (.goto 4, 3) := by decide +kernel
theorem dX11_which_17 : decode cX11_which 17 = .ok (.iconst 0, 1) := by decide +kernel
theorem dX11_which_18 : decode cX11_which 18 = .ok (.iconst 1, 1) := by decide +kernel
theorem dX11_which_19 : decode cX11_which 19 = .ok (.invokevirtual 181, 3) := by decide +kernel
theorem dX11_which_22 : decode cX11_which 22 = .ok (.ifCond .eq 5, 3) := by decide +kernel
theorem dX11_which_25 : decode cX11_which 25 = .ok (.iconst 0, 1) := by decide +kernel
theorem dX11_which_26 : decode cX11_which 26 = .ok (.ireturn, 1) := by decide +kernel
theorem dX11_which_27 : decode cX11_which 27 = .ok (.iconst (-1), 1) := by decide +kernel
theorem dX11_which_28 : decode cX11_which 28 = .ok (.istore_n 2, 1) := by decide +kernel
theorem dX11_which_29 : decode cX11_which 29 = .ok (.lconst 0, 1) := by decide +kernel
theorem dX11_which_30 : decode cX11_which 30 = .ok (.lstore_n 3, 1) := by decide +kernel
theorem dX11_which_31 : decode cX11_which 31 = .ok (.iconst 0, 1) := by decide +kernel
theorem dX11_which_32 : decode cX11_which 32 = .ok (.istore 5, 2) := by decide +kernel
theorem dX11_which_34 : decode cX11_which 34 = .ok (.iload 5, 2) := by decide +kernel
theorem dX11_which_36 : decode cX11_which 36 = .ok (.aload_n 0, 1) := by decide +kernel
theorem dX11_which_37 : decode cX11_which 37 = .ok (.getfield 20, 3) := by decide +kernel
theorem dX11_which_40 : decode cX11_which 40 = .ok (.iconst 2, 1) := by decide +kernel
theorem dX11_which_41 : decode cX11_which 41 = .ok (.iaload, 1) := by decide +kernel
theorem dX11_which_42 : decode cX11_which 42 = .ok (.if_icmp .ge 39, 3) := by decide +kernel
theorem dX11_which_45 : decode cX11_which 45 = .ok (.aload_n 0, 1) := by decide +kernel
theorem dX11_which_46 : decode cX11_which 46 = .ok (.iload 5, 2) := by decide +kernel
theorem dX11_which_48 : decode cX11_which 48 = .ok (.iload_n 1, 1) := by decide +kernel
theorem dX11_which_49 : decode cX11_which 49 = .ok (.invokevirtual 359, 3) := by decide +kernel
theorem dX11_which_52 : decode cX11_which 52 = .ok (.lstore 6, 2) := by decide +kernel
theorem dX11_which_54 : decode cX11_which 54 = .ok (.iload_n 2, 1) := by decide +kernel
theorem dX11_which_55 : decode cX11_which 55 = .ok (.iconst (-1), 1) := by decide +kernel
theorem dX11_which_56 : decode cX11_which 56 = .ok (.if_icmp .eq 13, 3) := by decide +kernel
theorem dX11_which_59 : decode cX11_which 59 = .ok (.lload 6, 2) := by decide +kernel
theorem dX11_which_61 : decode cX11_which 61 = .ok (.lload_n 3, 1) := by decide +kernel
theorem dX11_which_62 : decode cX11_which 62 = .ok (.lcmp, 1) := by decide +kernel
theorem dX11_which_63 : decode cX11_which 63 = .ok (.ifCond .lt 6, 3) := by decide +kernel
theorem dX11_which_66 : decode cX11_which 66 = .ok (.goto 9, 3) := by decide +kernel
theorem dX11_which_69 : decode cX11_which 69 = .ok (.iload 5, 2) := by decide +kernel
theorem dX11_which_71 : decode cX11_which 71 = .ok (.istore_n 2, 1) := by decide +kernel
theorem dX11_which_72 : decode cX11_which 72 = .ok (.lload 6, 2) := by decide +kernel
theorem dX11_which_74 : decode cX11_which 74 = .ok (.lstore_n 3, 1) := by decide +kernel
theorem dX11_which_75 : decode cX11_which 75 = .ok (.iinc 5 1, 3) := by decide +kernel
theorem dX11_which_78 : decode cX11_which 78 = .ok (.goto (-44), 3) := by decide +kernel
theorem dX11_which_81 : decode cX11_which 81 = .ok (.iload_n 2, 1) := by decide +kernel
theorem dX11_which_82 : decode cX11_which 82 = .ok (.ireturn, 1) := by decide +kernel
theorem dX11_menCost_0 : decode cX11_menCost 0 = .ok (.aload_n 0, 1) := by decide +kernel
theorem dX11_menCost_1 : decode cX11_menCost 1 = .ok (.invokevirtual 255, 3) := by decide +kernel
theorem dX11_menCost_4 : decode cX11_menCost 4 = .ok (.aload_n 0, 1) := by decide +kernel
theorem dX11_menCost_5 : decode cX11_menCost 5 = .ok (.getfield 61, 3) := by decide +kernel
theorem dX11_menCost_8 : decode cX11_menCost 8 = .ok (.iload_n 1, 1) := by decide +kernel
theorem dX11_menCost_9 : decode cX11_menCost 9 = .ok (.iconst 0, 1) := by decide +kernel
theorem dX11_menCost_10 : decode cX11_menCost 10 = .ok (.iastore, 1) := by decide +kernel
theorem dX11_menCost_11 : decode cX11_menCost 11 = .ok (.aload_n 0, 1) := by decide +kernel
theorem dX11_menCost_12 : decode cX11_menCost 12 = .ok (.getfield 64, 3) := by decide +kernel
theorem dX11_menCost_15 : decode cX11_menCost 15 = .ok (.iload_n 1, 1) := by decide +kernel
theorem dX11_menCost_16 : decode cX11_menCost 16 = .ok (.aload_n 0, 1) := by decide +kernel
theorem dX11_menCost_17 : decode cX11_menCost 17 = .ok (.getfield 20, 3) := by decide +kernel
theorem dX11_menCost_20 : decode cX11_menCost 20 = .ok (.iconst 5, 1) := by decide +kernel
theorem dX11_menCost_21 : decode cX11_menCost 21 = .ok (.iaload, 1) := by decide +kernel
theorem dX11_menCost_22 : decode cX11_menCost 22 = .ok (.iastore, 1) := by decide +kernel
theorem dX11_menCost_23 : decode cX11_menCost 23 = .ok (.aload_n 0, 1) := by decide +kernel
theorem dX11_menCost_24 : decode cX11_menCost 24 = .ok (.iconst 0, 1) := by decide +kernel
theorem dX11_menCost_25 : decode cX11_menCost 25 = .ok (.iload_n 2, 1) := by decide +kernel
theorem dX11_menCost_26 : decode cX11_menCost 26 = .ok (.invokevirtual 305, 3) := by decide +kernel
theorem dX11_menCost_29 : decode cX11_menCost 29 = .ok (.aload_n 0, 1) := by decide +kernel
theorem dX11_menCost_30 : decode cX11_menCost 30 = .ok (.getfield 239, 3) := by decide +kernel
theorem dX11_menCost_33 : decode cX11_menCost 33 = .ok (.lreturn, 1) := by decide +kernel
theorem dX11_men_0 : decode cX11_men 0 = .ok (.aload_n 0, 1) := by decide +kernel
theorem dX11_men_1 : decode cX11_men 1 = .ok (.iconst 0, 1) := by decide +kernel
theorem dX11_men_2 : decode cX11_men 2 = .ok (.putfield 104, 3) := by decide +kernel
theorem dX11_men_5 : decode cX11_men 5 = .ok (.aload_n 0, 1) := by decide +kernel
theorem dX11_men_6 : decode cX11_men 6 = .ok (.aload_n 0, 1) := by decide +kernel
theorem dX11_men_7 : decode cX11_men 7 = .ok (.iload_n 1, 1) := by decide +kernel
theorem dX11_men_8 : decode cX11_men 8 = .ok (.invokevirtual 197, 3) := by decide +kernel
theorem dX11_men_11 : decode cX11_men 11 = .ok (.ifCond .ne 7, 3) := by decide +kernel
theorem dX11_men_14 : decode cX11_men 14 = .ok (.iconst 1, 1) := by decide +kernel
theorem dX11_men_15 : decode cX11_men 15 = .ok (.goto 4, 3) := by decide +kernel
theorem dX11_men_18 : decode cX11_men 18 = .ok (.iconst 0, 1) := by decide +kernel
theorem dX11_men_19 : decode cX11_men 19 = .ok (.iconst 1, 1) := by decide +kernel
theorem dX11_men_20 : decode cX11_men 20 = .ok (.invokevirtual 181, 3) := by decide +kernel
theorem dX11_men_23 : decode cX11_men 23 = .ok (.ifCond .ne 23, 3) := by decide +kernel
theorem dX11_men_26 : decode cX11_men 26 = .ok (.aload_n 0, 1) := by decide +kernel
theorem dX11_men_27 : decode cX11_men 27 = .ok (.iload_n 2, 1) := by decide +kernel
theorem dX11_men_28 : decode cX11_men 28 = .ok (.invokestatic 299, 3) := by decide +kernel
theorem dX11_men_31 : decode cX11_men 31 = .ok (.ifCond .ne 7, 3) := by decide +kernel
theorem dX11_men_34 : decode cX11_men 34 = .ok (.iconst 1, 1) := by decide +kernel
theorem dX11_men_35 : decode cX11_men 35 = .ok (.goto 4, 3) := by decide +kernel
theorem dX11_men_38 : decode cX11_men 38 = .ok (.iconst 0, 1) := by decide +kernel
theorem dX11_men_39 : decode cX11_men 39 = .ok (.iconst 2, 1) := by decide +kernel
theorem dX11_men_40 : decode cX11_men 40 = .ok (.invokevirtual 181, 3) := by decide +kernel
theorem dX11_men_43 : decode cX11_men 43 = .ok (.ifCond .eq 5, 3) := by decide +kernel
theorem dX11_men_46 : decode cX11_men 46 = .ok (.lconst 0, 1) := by decide +kernel
theorem dX11_men_47 : decode cX11_men 47 = .ok (.lreturn, 1) := by decide +kernel
theorem dX11_men_48 : decode cX11_men 48 = .ok (.aload_n 0, 1) := by decide +kernel
theorem dX11_men_49 : decode cX11_men 49 = .ok (.iload_n 2, 1) := by decide +kernel
theorem dX11_men_50 : decode cX11_men 50 = .ok (.invokevirtual 344, 3) := by decide +kernel
theorem dX11_men_53 : decode cX11_men 53 = .ok (.lstore_n 3, 1) := by decide +kernel
theorem dX11_men_54 : decode cX11_men 54 = .ok (.lload_n 3, 1) := by decide +kernel
theorem dX11_men_55 : decode cX11_men 55 = .ok (.aload_n 0, 1) := by decide +kernel
theorem dX11_men_56 : decode cX11_men 56 = .ok (.iload_n 1, 1) := by decide +kernel
theorem dX11_men_57 : decode cX11_men 57 = .ok (.iload_n 2, 1) := by decide +kernel
theorem dX11_men_58 : decode cX11_men 58 = .ok (.invokevirtual 362, 3) := by decide +kernel
theorem dX11_men_61 : decode cX11_men 61 = .ok (.lsub, 1) := by decide +kernel
theorem dX11_men_62 : decode cX11_men 62 = .ok (.lreturn, 1) := by decide +kernel
theorem dX11_beside_0 : decode cX11_beside 0 = .ok (.aload_n 0, 1) := by decide +kernel
theorem dX11_beside_1 : decode cX11_beside 1 = .ok (.iconst 0, 1) := by decide +kernel
theorem dX11_beside_2 : decode cX11_beside 2 = .ok (.putfield 104, 3) := by decide +kernel
theorem dX11_beside_5 : decode cX11_beside 5 = .ok (.aload_n 0, 1) := by decide +kernel
theorem dX11_beside_6 : decode cX11_beside 6 = .ok (.iload_n 1, 1) := by decide +kernel
theorem dX11_beside_7 : decode cX11_beside 7 = .ok (.invokestatic 299, 3) := by decide +kernel
theorem dX11_beside_10 : decode cX11_beside 10 = .ok (.ifCond .ne 7, 3) := by decide +kernel
theorem dX11_beside_13 : decode cX11_beside 13 = .ok (.iconst 1, 1) := by decide +kernel
theorem dX11_beside_14 : decode cX11_beside 14 = .ok (.goto 4, 3) := by decide +kernel
theorem dX11_beside_17 : decode cX11_beside 17 = .ok (.iconst 0, 1) := by decide +kernel
theorem dX11_beside_18 : decode cX11_beside 18 = .ok (.iconst 1, 1) := by decide +kernel
theorem dX11_beside_19 : decode cX11_beside 19 = .ok (.invokevirtual 181, 3) := by decide +kernel
theorem dX11_beside_22 : decode cX11_beside 22 = .ok (.ifCond .eq 5, 3) := by decide +kernel
theorem dX11_beside_25 : decode cX11_beside 25 = .ok (.iconst 0, 1) := by decide +kernel
theorem dX11_beside_26 : decode cX11_beside 26 = .ok (.ireturn, 1) := by decide +kernel
theorem dX11_beside_27 : decode cX11_beside 27 = .ok (.iconst (-1), 1) := by decide +kernel
theorem dX11_beside_28 : decode cX11_beside 28 = .ok (.istore_n 2, 1) := by decide +kernel
theorem dX11_beside_29 : decode cX11_beside 29 = .ok (.aload_n 0, 1) := by decide +kernel
theorem dX11_beside_30 : decode cX11_beside 30 = .ok (.iload_n 1, 1) := by decide +kernel
theorem dX11_beside_31 : decode cX11_beside 31 = .ok (.invokevirtual 344, 3) := by decide +kernel
theorem dX11_beside_34 : decode cX11_beside 34 = .ok (.lstore_n 3, 1) := by decide +kernel
theorem dX11_beside_35 : decode cX11_beside 35 = .ok (.iconst 0, 1) := by decide +kernel
theorem dX11_beside_36 : decode cX11_beside 36 = .ok (.istore 5, 2) := by decide +kernel
theorem dX11_beside_38 : decode cX11_beside 38 = .ok (.iload 5, 2) := by decide +kernel
theorem dX11_beside_40 : decode cX11_beside 40 = .ok (.aload_n 0, 1) := by decide +kernel
theorem dX11_beside_41 : decode cX11_beside 41 = .ok (.getfield 20, 3) := by decide +kernel
theorem dX11_beside_44 : decode cX11_beside 44 = .ok (.iconst 1, 1) := by decide +kernel
theorem dX11_beside_45 : decode cX11_beside 45 = .ok (.iaload, 1) := by decide +kernel
theorem dX11_beside_46 : decode cX11_beside 46 = .ok (.if_icmp .ge 34, 3) := by decide +kernel
theorem dX11_beside_49 : decode cX11_beside 49 = .ok (.aload_n 0, 1) := by decide +kernel
theorem dX11_beside_50 : decode cX11_beside 50 = .ok (.iload 5, 2) := by decide +kernel
theorem dX11_beside_52 : decode cX11_beside 52 = .ok (.iload_n 1, 1) := by decide +kernel
theorem dX11_beside_53 : decode cX11_beside 53 = .ok (.invokevirtual 362, 3) := by decide +kernel
theorem dX11_beside_56 : decode cX11_beside 56 = .ok (.lstore 6, 2) := by decide +kernel
theorem dX11_beside_58 : decode cX11_beside 58 = .ok (.lload 6, 2) := by decide +kernel
theorem dX11_beside_60 : decode cX11_beside 60 = .ok (.lload_n 3, 1) := by decide +kernel
theorem dX11_beside_61 : decode cX11_beside 61 = .ok (.lcmp, 1) := by decide +kernel
theorem dX11_beside_62 : decode cX11_beside 62 = .ok (.ifCond .lt 6, 3) := by decide +kernel
theorem dX11_beside_65 : decode cX11_beside 65 = .ok (.goto 9, 3) := by decide +kernel
theorem dX11_beside_68 : decode cX11_beside 68 = .ok (.iload 5, 2) := by decide +kernel
theorem dX11_beside_70 : decode cX11_beside 70 = .ok (.istore_n 2, 1) := by decide +kernel
theorem dX11_beside_71 : decode cX11_beside 71 = .ok (.lload 6, 2) := by decide +kernel
theorem dX11_beside_73 : decode cX11_beside 73 = .ok (.lstore_n 3, 1) := by decide +kernel
theorem dX11_beside_74 : decode cX11_beside 74 = .ok (.iinc 5 1, 3) := by decide +kernel
theorem dX11_beside_77 : decode cX11_beside 77 = .ok (.goto (-39), 3) := by decide +kernel
theorem dX11_beside_80 : decode cX11_beside 80 = .ok (.iload_n 2, 1) := by decide +kernel
theorem dX11_beside_81 : decode cX11_beside 81 = .ok (.ireturn, 1) := by decide +kernel
theorem dX11_lawCost_0 : decode cX11_lawCost 0 = .ok (.aload_n 0, 1) := by decide +kernel
theorem dX11_lawCost_1 : decode cX11_lawCost 1 = .ok (.invokevirtual 255, 3) := by decide +kernel
theorem dX11_lawCost_4 : decode cX11_lawCost 4 = .ok (.aload_n 0, 1) := by decide +kernel
theorem dX11_lawCost_5 : decode cX11_lawCost 5 = .ok (.iload_n 1, 1) := by decide +kernel
theorem dX11_lawCost_6 : decode cX11_lawCost 6 = .ok (.putfield 227, 3) := by decide +kernel
theorem dX11_lawCost_9 : decode cX11_lawCost 9 = .ok (.iconst 0, 1) := by decide +kernel
theorem dX11_lawCost_10 : decode cX11_lawCost 10 = .ok (.istore_n 3, 1) := by decide +kernel
theorem dX11_lawCost_11 : decode cX11_lawCost 11 = .ok (.iload_n 3, 1) := by decide +kernel
theorem dX11_lawCost_12 : decode cX11_lawCost 12 = .ok (.aload_n 0, 1) := by decide +kernel
theorem dX11_lawCost_13 : decode cX11_lawCost 13 = .ok (.getfield 204, 3) := by decide +kernel
theorem dX11_lawCost_16 : decode cX11_lawCost 16 = .ok (.if_icmp .ge 36, 3) := by decide +kernel
theorem dX11_lawCost_19 : decode cX11_lawCost 19 = .ok (.aload_n 0, 1) := by decide +kernel
theorem dX11_lawCost_20 : decode cX11_lawCost 20 = .ok (.getfield 64, 3) := by decide +kernel
theorem dX11_lawCost_23 : decode cX11_lawCost 23 = .ok (.iload_n 3, 1) := by decide +kernel
theorem dX11_lawCost_24 : decode cX11_lawCost 24 = .ok (.iaload, 1) := by decide +kernel
theorem dX11_lawCost_25 : decode cX11_lawCost 25 = .ok (.iload_n 1, 1) := by decide +kernel
theorem dX11_lawCost_26 : decode cX11_lawCost 26 = .ok (.if_icmp .ge 6, 3) := by decide +kernel
theorem dX11_lawCost_29 : decode cX11_lawCost 29 = .ok (.goto 17, 3) := by decide +kernel
theorem dX11_lawCost_32 : decode cX11_lawCost 32 = .ok (.aload_n 0, 1) := by decide +kernel
theorem dX11_lawCost_33 : decode cX11_lawCost 33 = .ok (.getfield 64, 3) := by decide +kernel
theorem dX11_lawCost_36 : decode cX11_lawCost 36 = .ok (.iload_n 3, 1) := by decide +kernel
theorem dX11_lawCost_37 : decode cX11_lawCost 37 = .ok (.iload_n 1, 1) := by decide +kernel
theorem dX11_lawCost_38 : decode cX11_lawCost 38 = .ok (.iastore, 1) := by decide +kernel
theorem dX11_lawCost_39 : decode cX11_lawCost 39 = .ok (.aload_n 0, 1) := by decide +kernel
theorem dX11_lawCost_40 : decode cX11_lawCost 40 = .ok (.getfield 61, 3) := by decide +kernel
theorem dX11_lawCost_43 : decode cX11_lawCost 43 = .ok (.iload_n 3, 1) := by decide +kernel
theorem dX11_lawCost_44 : decode cX11_lawCost 44 = .ok (.iconst 0, 1) := by decide +kernel
theorem dX11_lawCost_45 : decode cX11_lawCost 45 = .ok (.iastore, 1) := by decide +kernel
theorem dX11_lawCost_46 : decode cX11_lawCost 46 = .ok (.iinc 3 1, 3) := by decide +kernel
theorem dX11_lawCost_49 : decode cX11_lawCost 49 = .ok (.goto (-38), 3) := by decide +kernel
theorem dX11_lawCost_52 : decode cX11_lawCost 52 = .ok (.aload_n 0, 1) := by decide +kernel
theorem dX11_lawCost_53 : decode cX11_lawCost 53 = .ok (.iconst 0, 1) := by decide +kernel
theorem dX11_lawCost_54 : decode cX11_lawCost 54 = .ok (.iload_n 2, 1) := by decide +kernel
theorem dX11_lawCost_55 : decode cX11_lawCost 55 = .ok (.invokevirtual 305, 3) := by decide +kernel
theorem dX11_lawCost_58 : decode cX11_lawCost 58 = .ok (.aload_n 0, 1) := by decide +kernel
theorem dX11_lawCost_59 : decode cX11_lawCost 59 = .ok (.getfield 239, 3) := by decide +kernel
theorem dX11_lawCost_62 : decode cX11_lawCost 62 = .ok (.lreturn, 1) := by decide +kernel
theorem dX11_law_0 : decode cX11_law 0 = .ok (.aload_n 0, 1) := by decide +kernel
theorem dX11_law_1 : decode cX11_law 1 = .ok (.iconst 0, 1) := by decide +kernel
theorem dX11_law_2 : decode cX11_law 2 = .ok (.putfield 104, 3) := by decide +kernel
theorem dX11_law_5 : decode cX11_law 5 = .ok (.aload_n 0, 1) := by decide +kernel
theorem dX11_law_6 : decode cX11_law 6 = .ok (.iload_n 1, 1) := by decide +kernel
theorem dX11_law_7 : decode cX11_law 7 = .ok (.iconst 3, 1) := by decide +kernel
theorem dX11_law_8 : decode cX11_law 8 = .ok (.bipush 11, 2) := by decide +kernel
theorem dX11_law_10 : decode cX11_law 10 = .ok (.invokestatic 138, 3) := by decide +kernel
theorem dX11_law_13 : decode cX11_law 13 = .ok (.ifCond .eq 10, 3) := by decide +kernel
theorem dX11_law_16 : decode cX11_law 16 = .ok (.iload_n 2, 1) := by decide +kernel
theorem dX11_law_17 : decode cX11_law 17 = .ok (.invokestatic 299, 3) := by decide +kernel
theorem dX11_law_20 : decode cX11_law 20 = .ok (.ifCond .ne 7, 3) := by decide +kernel
theorem dX11_law_23 : decode cX11_law 23 = .ok (.iconst 1, 1) := by decide +kernel
theorem dX11_law_24 : decode cX11_law 24 = .ok (.goto 4, 3) := by decide +kernel
theorem dX11_law_27 : decode cX11_law 27 = .ok (.iconst 0, 1) := by decide +kernel
theorem dX11_law_28 : decode cX11_law 28 = .ok (.iconst 1, 1) := by decide +kernel
theorem dX11_law_29 : decode cX11_law 29 = .ok (.invokevirtual 181, 3) := by decide +kernel
theorem dX11_law_32 : decode cX11_law 32 = .ok (.ifCond .eq 5, 3) := by decide +kernel
theorem dX11_law_35 : decode cX11_law 35 = .ok (.lconst 0, 1) := by decide +kernel
theorem dX11_law_36 : decode cX11_law 36 = .ok (.lreturn, 1) := by decide +kernel
theorem dX11_law_37 : decode cX11_law 37 = .ok (.aload_n 0, 1) := by decide +kernel
theorem dX11_law_38 : decode cX11_law 38 = .ok (.iload_n 1, 1) := by decide +kernel
theorem dX11_law_39 : decode cX11_law 39 = .ok (.iload_n 2, 1) := by decide +kernel
theorem dX11_law_40 : decode cX11_law 40 = .ok (.invokevirtual 365, 3) := by decide +kernel
theorem dX11_law_43 : decode cX11_law 43 = .ok (.lreturn, 1) := by decide +kernel
theorem dX11_other_0 : decode cX11_other 0 = .ok (.aload_n 0, 1) := by decide +kernel
theorem dX11_other_1 : decode cX11_other 1 = .ok (.iconst 0, 1) := by decide +kernel
theorem dX11_other_2 : decode cX11_other 2 = .ok (.putfield 104, 3) := by decide +kernel
theorem dX11_other_5 : decode cX11_other 5 = .ok (.aload_n 0, 1) := by decide +kernel
theorem dX11_other_6 : decode cX11_other 6 = .ok (.iload_n 1, 1) := by decide +kernel
theorem dX11_other_7 : decode cX11_other 7 = .ok (.invokestatic 299, 3) := by decide +kernel
theorem dX11_other_10 : decode cX11_other 10 = .ok (.ifCond .ne 7, 3) := by decide +kernel
theorem dX11_other_13 : decode cX11_other 13 = .ok (.iconst 1, 1) := by decide +kernel
theorem dX11_other_14 : decode cX11_other 14 = .ok (.goto 4, 3) := by decide +kernel
theorem dX11_other_17 : decode cX11_other 17 = .ok (.iconst 0, 1) := by decide +kernel
theorem dX11_other_18 : decode cX11_other 18 = .ok (.iconst 1, 1) := by decide +kernel
theorem dX11_other_19 : decode cX11_other 19 = .ok (.invokevirtual 181, 3) := by decide +kernel
theorem dX11_other_22 : decode cX11_other 22 = .ok (.ifCond .eq 5, 3) := by decide +kernel
theorem dX11_other_25 : decode cX11_other 25 = .ok (.iconst 0, 1) := by decide +kernel
theorem dX11_other_26 : decode cX11_other 26 = .ok (.ireturn, 1) := by decide +kernel
theorem dX11_other_27 : decode cX11_other 27 = .ok (.iconst (-1), 1) := by decide +kernel
theorem dX11_other_28 : decode cX11_other 28 = .ok (.istore_n 2, 1) := by decide +kernel
theorem dX11_other_29 : decode cX11_other 29 = .ok (.lconst 0, 1) := by decide +kernel
theorem dX11_other_30 : decode cX11_other 30 = .ok (.lstore_n 3, 1) := by decide +kernel
theorem dX11_other_31 : decode cX11_other 31 = .ok (.iconst 3, 1) := by decide +kernel
theorem dX11_other_32 : decode cX11_other 32 = .ok (.istore 5, 2) := by decide +kernel
theorem dX11_other_34 : decode cX11_other 34 = .ok (.iload 5, 2) := by decide +kernel
theorem dX11_other_36 : decode cX11_other 36 = .ok (.bipush 12, 2) := by decide +kernel
theorem dX11_other_38 : decode cX11_other 38 = .ok (.if_icmp .ge 39, 3) := by decide +kernel
theorem dX11_other_41 : decode cX11_other 41 = .ok (.aload_n 0, 1) := by decide +kernel
theorem dX11_other_42 : decode cX11_other 42 = .ok (.iload 5, 2) := by decide +kernel
theorem dX11_other_44 : decode cX11_other 44 = .ok (.iload_n 1, 1) := by decide +kernel
theorem dX11_other_45 : decode cX11_other 45 = .ok (.invokevirtual 365, 3) := by decide +kernel
theorem dX11_other_48 : decode cX11_other 48 = .ok (.lstore 6, 2) := by decide +kernel
theorem dX11_other_50 : decode cX11_other 50 = .ok (.iload_n 2, 1) := by decide +kernel
theorem dX11_other_51 : decode cX11_other 51 = .ok (.iconst (-1), 1) := by decide +kernel
theorem dX11_other_52 : decode cX11_other 52 = .ok (.if_icmp .eq 13, 3) := by decide +kernel
theorem dX11_other_55 : decode cX11_other 55 = .ok (.lload 6, 2) := by decide +kernel
theorem dX11_other_57 : decode cX11_other 57 = .ok (.lload_n 3, 1) := by decide +kernel
theorem dX11_other_58 : decode cX11_other 58 = .ok (.lcmp, 1) := by decide +kernel
theorem dX11_other_59 : decode cX11_other 59 = .ok (.ifCond .lt 6, 3) := by decide +kernel
theorem dX11_other_62 : decode cX11_other 62 = .ok (.goto 9, 3) := by decide +kernel
theorem dX11_other_65 : decode cX11_other 65 = .ok (.iload 5, 2) := by decide +kernel
theorem dX11_other_67 : decode cX11_other 67 = .ok (.istore_n 2, 1) := by decide +kernel
theorem dX11_other_68 : decode cX11_other 68 = .ok (.lload 6, 2) := by decide +kernel
theorem dX11_other_70 : decode cX11_other 70 = .ok (.lstore_n 3, 1) := by decide +kernel
theorem dX11_other_71 : decode cX11_other 71 = .ok (.iinc 5 1, 3) := by decide +kernel
theorem dX11_other_74 : decode cX11_other 74 = .ok (.goto (-40), 3) := by decide +kernel
theorem dX11_other_77 : decode cX11_other 77 = .ok (.iload_n 2, 1) := by decide +kernel
theorem dX11_other_78 : decode cX11_other 78 = .ok (.ireturn, 1) := by decide +kernel
theorem dX11_fits_0 : decode cX11_fits 0 = .ok (.aload_n 0, 1) := by decide +kernel
theorem dX11_fits_1 : decode cX11_fits 1 = .ok (.iconst 0, 1) := by decide +kernel
theorem dX11_fits_2 : decode cX11_fits 2 = .ok (.putfield 104, 3) := by decide +kernel
theorem dX11_fits_5 : decode cX11_fits 5 = .ok (.lconst 1, 1) := by decide +kernel
theorem dX11_fits_6 : decode cX11_fits 6 = .ok (.lstore 4, 2) := by decide +kernel
theorem dX11_fits_8 : decode cX11_fits 8 = .ok (.iconst 0, 1) := by decide +kernel
theorem dX11_fits_9 : decode cX11_fits 9 = .ok (.istore 6, 2) := by decide +kernel
theorem dX11_fits_11 : decode cX11_fits 11 = .ok (.iload 6, 2) := by decide +kernel
theorem dX11_fits_13 : decode cX11_fits 13 = .ok (.iload_n 3, 1) := by decide +kernel
theorem dX11_fits_14 : decode cX11_fits 14 = .ok (.if_icmp .ge 24, 3) := by decide +kernel
theorem dX11_fits_17 : decode cX11_fits 17 = .ok (.iload 6, 2) := by decide +kernel
theorem dX11_fits_19 : decode cX11_fits 19 = .ok (.bipush 20, 2) := by decide +kernel
theorem dX11_fits_21 : decode cX11_fits 21 = .ok (.if_icmp .ge 17, 3) := by decide +kernel
theorem dX11_fits_24 : decode cX11_fits 24 = .ok (.lload 4, 2) := by decide +kernel
theorem dX11_fits_26 : decode cX11_fits 26 = .ok (.ldc2_w 368, 3) := by decide +kernel
theorem dX11_fits_29 : decode cX11_fits 29 = .ok (.lmul, 1) := by decide +kernel
theorem dX11_fits_30 : decode cX11_fits 30 = .ok (.lstore 4, 2) := by decide +kernel
theorem dX11_fits_32 : decode cX11_fits 32 = .ok (.iinc 6 1, 3) := by decide +kernel
theorem dX11_fits_35 : decode cX11_fits 35 = .ok (.goto (-24), 3) := by decide +kernel
theorem dX11_fits_38 : decode cX11_fits 38 = .ok (.aload_n 0, 1) := by decide +kernel
theorem dX11_fits_39 : decode cX11_fits 39 = .ok (.iload_n 3, 1) := by decide +kernel
theorem dX11_fits_40 : decode cX11_fits 40 = .ok (.iconst 0, 1) := by decide +kernel
theorem dX11_fits_41 : decode cX11_fits 41 = .ok (.bipush 20, 2) := by decide +kernel
theorem dX11_fits_43 : decode cX11_fits 43 = .ok (.invokestatic 138, 3) := by decide +kernel
theorem dX11_fits_46 : decode cX11_fits 46 = .ok (.ifCond .eq 16, 3) := by decide +kernel
theorem dX11_fits_49 : decode cX11_fits 49 = .ok (.lload_n 1, 1) := by decide +kernel
theorem dX11_fits_50 : decode cX11_fits 50 = .ok (.lconst 0, 1) := by decide +kernel
theorem dX11_fits_51 : decode cX11_fits 51 = .ok (.lcmp, 1) := by decide +kernel
theorem dX11_fits_52 : decode cX11_fits 52 = .ok (.ifCond .lt 10, 3) := by decide +kernel
theorem dX11_fits_55 : decode cX11_fits 55 = .ok (.lload_n 1, 1) := by decide +kernel
theorem dX11_fits_56 : decode cX11_fits 56 = .ok (.lload 4, 2) := by decide +kernel
theorem dX11_fits_58 : decode cX11_fits 58 = .ok (.lcmp, 1) := by decide +kernel
theorem dX11_fits_59 : decode cX11_fits 59 = .ok (.ifCond .lt 7, 3) := by decide +kernel
theorem dX11_fits_62 : decode cX11_fits 62 = .ok (.iconst 1, 1) := by decide +kernel
theorem dX11_fits_63 : decode cX11_fits 63 = .ok (.goto 4, 3) := by decide +kernel
theorem dX11_fits_66 : decode cX11_fits 66 = .ok (.iconst 0, 1) := by decide +kernel
theorem dX11_fits_67 : decode cX11_fits 67 = .ok (.iconst 1, 1) := by decide +kernel
theorem dX11_fits_68 : decode cX11_fits 68 = .ok (.invokevirtual 181, 3) := by decide +kernel
theorem dX11_fits_71 : decode cX11_fits 71 = .ok (.ifCond .eq 5, 3) := by decide +kernel
theorem dX11_fits_74 : decode cX11_fits 74 = .ok (.iconst 0, 1) := by decide +kernel
theorem dX11_fits_75 : decode cX11_fits 75 = .ok (.ireturn, 1) := by decide +kernel
theorem dX11_fits_76 : decode cX11_fits 76 = .ok (.aload_n 0, 1) := by decide +kernel
theorem dX11_fits_77 : decode cX11_fits 77 = .ok (.getfield 20, 3) := by decide +kernel
theorem dX11_fits_80 : decode cX11_fits 80 = .ok (.iconst 5, 1) := by decide +kernel
theorem dX11_fits_81 : decode cX11_fits 81 = .ok (.iaload, 1) := by decide +kernel
theorem dX11_fits_82 : decode cX11_fits 82 = .ok (.istore 6, 2) := by decide +kernel
theorem dX11_fits_84 : decode cX11_fits 84 = .ok (.iconst 1, 1) := by decide +kernel
theorem dX11_fits_85 : decode cX11_fits 85 = .ok (.iload 6, 2) := by decide +kernel
theorem dX11_fits_87 : decode cX11_fits 87 = .ok (.ishl, 1) := by decide +kernel
theorem dX11_fits_88 : decode cX11_fits 88 = .ok (.istore 7, 2) := by decide +kernel
theorem dX11_fits_90 : decode cX11_fits 90 = .ok (.iconst 0, 1) := by decide +kernel
theorem dX11_fits_91 : decode cX11_fits 91 = .ok (.istore 8, 2) := by decide +kernel
theorem dX11_fits_93 : decode cX11_fits 93 = .ok (.iload 8, 2) := by decide +kernel
theorem dX11_fits_95 : decode cX11_fits 95 = .ok (.iload_n 3, 1) := by decide +kernel
theorem dX11_fits_96 : decode cX11_fits 96 = .ok (.if_icmp .ge 91, 3) := by decide +kernel
theorem dX11_fits_99 : decode cX11_fits 99 = .ok (.lload 4, 2) := by decide +kernel
theorem dX11_fits_101 : decode cX11_fits 101 = .ok (.ldc2_w 368, 3) := by decide +kernel
theorem dX11_fits_104 : decode cX11_fits 104 = .ok (.ldiv, 1) := by decide +kernel
theorem dX11_fits_105 : decode cX11_fits 105 = .ok (.lstore 4, 2) := by decide +kernel
theorem dX11_fits_107 : decode cX11_fits 107 = .ok (.lload_n 1, 1) := by decide +kernel
theorem dX11_fits_108 : decode cX11_fits 108 = .ok (.lload 4, 2) := by decide +kernel
theorem dX11_fits_110 : decode cX11_fits 110 = .ok (.ldiv, 1) := by decide +kernel
theorem dX11_fits_111 : decode cX11_fits 111 = .ok (.ldc2_w 368, 3) := by decide +kernel
theorem dX11_fits_114 : decode cX11_fits 114 = .ok (.lrem, 1) := by decide +kernel
theorem dX11_fits_115 : decode cX11_fits 115 = .ok (.l2i, 1) := by decide +kernel
theorem dX11_fits_116 : decode cX11_fits 116 = .ok (.istore 9, 2) := by decide +kernel
theorem dX11_fits_118 : decode cX11_fits 118 = .ok (.iload 7, 2) := by decide +kernel
theorem dX11_fits_120 : decode cX11_fits 120 = .ok (.iconst 1, 1) := by decide +kernel
theorem dX11_fits_121 : decode cX11_fits 121 = .ok (.ishl, 1) := by decide +kernel
theorem dX11_fits_122 : decode cX11_fits 122 = .ok (.istore 10, 2) := by decide +kernel
theorem dX11_fits_124 : decode cX11_fits 124 = .ok (.iload 10, 2) := by decide +kernel
theorem dX11_fits_126 : decode cX11_fits 126 = .ok (.iload 6, 2) := by decide +kernel
theorem dX11_fits_128 : decode cX11_fits 128 = .ok (.iconst 1, 1) := by decide +kernel
theorem dX11_fits_129 : decode cX11_fits 129 = .ok (.iadd, 1) := by decide +kernel
theorem dX11_fits_130 : decode cX11_fits 130 = .ok (.ishr, 1) := by decide +kernel
theorem dX11_fits_131 : decode cX11_fits 131 = .ok (.iconst 1, 1) := by decide +kernel
theorem dX11_fits_132 : decode cX11_fits 132 = .ok (.iand, 1) := by decide +kernel
theorem dX11_fits_133 : decode cX11_fits 133 = .ok (.iconst 1, 1) := by decide +kernel
theorem dX11_fits_134 : decode cX11_fits 134 = .ok (.if_icmp .ne 21, 3) := by decide +kernel
theorem dX11_fits_137 : decode cX11_fits 137 = .ok (.iload 10, 2) := by decide +kernel
theorem dX11_fits_139 : decode cX11_fits 139 = .ok (.iconst 1, 1) := by decide +kernel
theorem dX11_fits_140 : decode cX11_fits 140 = .ok (.iload 6, 2) := by decide +kernel
theorem dX11_fits_142 : decode cX11_fits 142 = .ok (.iconst 1, 1) := by decide +kernel
theorem dX11_fits_143 : decode cX11_fits 143 = .ok (.iadd, 1) := by decide +kernel
theorem dX11_fits_144 : decode cX11_fits 144 = .ok (.ishl, 1) := by decide +kernel
theorem dX11_fits_145 : decode cX11_fits 145 = .ok (.iconst (-1), 1) := by decide +kernel
theorem dX11_fits_146 : decode cX11_fits 146 = .ok (.ixor, 1) := by decide +kernel
theorem dX11_fits_147 : decode cX11_fits 147 = .ok (.iand, 1) := by decide +kernel
theorem dX11_fits_148 : decode cX11_fits 148 = .ok (.iconst 1, 1) := by decide +kernel
theorem dX11_fits_149 : decode cX11_fits 149 = .ok (.iload 6, 2) := by decide +kernel
theorem dX11_fits_151 : decode cX11_fits 151 = .ok (.ishl, 1) := by decide +kernel
theorem dX11_fits_152 : decode cX11_fits 152 = .ok (.ior, 1) := by decide +kernel
theorem dX11_fits_153 : decode cX11_fits 153 = .ok (.istore 10, 2) := by decide +kernel
theorem dX11_fits_155 : decode cX11_fits 155 = .ok (.iload 9, 2) := by decide +kernel
theorem dX11_fits_157 : decode cX11_fits 157 = .ok (.ifCond .ne 8, 3) := by decide +kernel
theorem dX11_fits_160 : decode cX11_fits 160 = .ok (.iload 10, 2) := by decide +kernel
theorem dX11_fits_162 : decode cX11_fits 162 = .ok (.goto 17, 3) := by decide +kernel
theorem dX11_fits_165 : decode cX11_fits 165 = .ok (.iload 9, 2) := by decide +kernel
theorem dX11_fits_167 : decode cX11_fits 167 = .ok (.iconst 1, 1) := by decide +kernel
theorem dX11_fits_168 : decode cX11_fits 168 = .ok (.if_icmp .ne 7, 3) := by decide +kernel
theorem dX11_fits_171 : decode cX11_fits 171 = .ok (.iconst 1, 1) := by decide +kernel
theorem dX11_fits_172 : decode cX11_fits 172 = .ok (.goto 7, 3) := by decide +kernel
theorem dX11_fits_175 : decode cX11_fits 175 = .ok (.iload 10, 2) := by decide +kernel
theorem dX11_fits_177 : decode cX11_fits 177 = .ok (.iconst 1, 1) := by decide +kernel
theorem dX11_fits_178 : decode cX11_fits 178 = .ok (.ior, 1) := by decide +kernel
theorem dX11_fits_179 : decode cX11_fits 179 = .ok (.istore 7, 2) := by decide +kernel
theorem dX11_fits_181 : decode cX11_fits 181 = .ok (.iinc 8 1, 3) := by decide +kernel
theorem dX11_fits_184 : decode cX11_fits 184 = .ok (.goto (-91), 3) := by decide +kernel
theorem dX11_fits_187 : decode cX11_fits 187 = .ok (.iload 7, 2) := by decide +kernel
theorem dX11_fits_189 : decode cX11_fits 189 = .ok (.ireturn, 1) := by decide +kernel
theorem dX11_seed_0 : decode cX11_seed 0 = .ok (.aload_n 0, 1) := by decide +kernel
theorem dX11_seed_1 : decode cX11_seed 1 = .ok (.iconst 0, 1) := by decide +kernel
theorem dX11_seed_2 : decode cX11_seed 2 = .ok (.putfield 104, 3) := by decide +kernel
theorem dX11_seed_5 : decode cX11_seed 5 = .ok (.aload_n 0, 1) := by decide +kernel
theorem dX11_seed_6 : decode cX11_seed 6 = .ok (.aload_n 0, 1) := by decide +kernel
theorem dX11_seed_7 : decode cX11_seed 7 = .ok (.iload_n 1, 1) := by decide +kernel
theorem dX11_seed_8 : decode cX11_seed 8 = .ok (.iload_n 2, 1) := by decide +kernel
theorem dX11_seed_9 : decode cX11_seed 9 = .ok (.invokevirtual 302, 3) := by decide +kernel
theorem dX11_seed_12 : decode cX11_seed 12 = .ok (.ifCond .eq 13, 3) := by decide +kernel
theorem dX11_seed_15 : decode cX11_seed 15 = .ok (.iload 4, 2) := by decide +kernel
theorem dX11_seed_17 : decode cX11_seed 17 = .ok (.iconst 0, 1) := by decide +kernel
theorem dX11_seed_18 : decode cX11_seed 18 = .ok (.iconst 2, 1) := by decide +kernel
theorem dX11_seed_19 : decode cX11_seed 19 = .ok (.invokestatic 138, 3) := by decide +kernel
theorem dX11_seed_22 : decode cX11_seed 22 = .ok (.ifCond .ne 7, 3) := by decide +kernel
theorem dX11_seed_25 : decode cX11_seed 25 = .ok (.iconst 1, 1) := by decide +kernel
theorem dX11_seed_26 : decode cX11_seed 26 = .ok (.goto 4, 3) := by decide +kernel
theorem dX11_seed_29 : decode cX11_seed 29 = .ok (.iconst 0, 1) := by decide +kernel
theorem dX11_seed_30 : decode cX11_seed 30 = .ok (.iconst 1, 1) := by decide +kernel
theorem dX11_seed_31 : decode cX11_seed 31 = .ok (.invokevirtual 181, 3) := by decide +kernel
theorem dX11_seed_34 : decode cX11_seed 34 = .ok (.ifCond .ne 28, 3) := by decide +kernel
theorem dX11_seed_37 : decode cX11_seed 37 = .ok (.aload_n 0, 1) := by decide +kernel
theorem dX11_seed_38 : decode cX11_seed 38 = .ok (.iload_n 1, 1) := by decide +kernel
theorem dX11_seed_39 : decode cX11_seed 39 = .ok (.iconst 1, 1) := by decide +kernel
theorem dX11_seed_40 : decode cX11_seed 40 = .ok (.if_icmp .ne 14, 3) := by decide +kernel
theorem dX11_seed_43 : decode cX11_seed 43 = .ok (.aload_n 0, 1) := by decide +kernel
theorem dX11_seed_44 : decode cX11_seed 44 = .ok (.getfield 191, 3) := by decide +kernel
theorem dX11_seed_47 : decode cX11_seed 47 = .ok (.ifCond .ne 7, 3) := by decide +kernel
theorem dX11_seed_50 : decode cX11_seed 50 = .ok (.iconst 1, 1) := by decide +kernel
theorem dX11_seed_51 : decode cX11_seed 51 = .ok (.goto 4, 3) := by decide +kernel
theorem dX11_seed_54 : decode cX11_seed 54 = .ok (.iconst 0, 1) := by decide +kernel
theorem dX11_seed_55 : decode cX11_seed 55 = .ok (.iconst 2, 1) := by decide +kernel
theorem dX11_seed_56 : decode cX11_seed 56 = .ok (.invokevirtual 181, 3) := by decide +kernel
theorem dX11_seed_59 : decode cX11_seed 59 = .ok (.ifCond .eq 5, 3) := by decide +kernel
theorem dX11_seed_62 : decode cX11_seed 62 = .ok (.lconst 0, 1) := by decide +kernel
theorem dX11_seed_63 : decode cX11_seed 63 = .ok (.lreturn, 1) := by decide +kernel
theorem dX11_seed_64 : decode cX11_seed 64 = .ok (.aload_n 0, 1) := by decide +kernel
theorem dX11_seed_65 : decode cX11_seed 65 = .ok (.invokevirtual 255, 3) := by decide +kernel
theorem dX11_seed_68 : decode cX11_seed 68 = .ok (.aload_n 0, 1) := by decide +kernel
theorem dX11_seed_69 : decode cX11_seed 69 = .ok (.iconst 1, 1) := by decide +kernel
theorem dX11_seed_70 : decode cX11_seed 70 = .ok (.putfield 79, 3) := by decide +kernel
theorem dX11_seed_73 : decode cX11_seed 73 = .ok (.aload_n 0, 1) := by decide +kernel
theorem dX11_seed_74 : decode cX11_seed 74 = .ok (.iload_n 3, 1) := by decide +kernel
theorem dX11_seed_75 : decode cX11_seed 75 = .ok (.putfield 270, 3) := by decide +kernel
theorem dX11_seed_78 : decode cX11_seed 78 = .ok (.aload_n 0, 1) := by decide +kernel
theorem dX11_seed_79 : decode cX11_seed 79 = .ok (.iload_n 1, 1) := by decide +kernel
theorem dX11_seed_80 : decode cX11_seed 80 = .ok (.iload_n 2, 1) := by decide +kernel
theorem dX11_seed_81 : decode cX11_seed 81 = .ok (.invokevirtual 305, 3) := by decide +kernel
theorem dX11_seed_84 : decode cX11_seed 84 = .ok (.aload_n 0, 1) := by decide +kernel
theorem dX11_seed_85 : decode cX11_seed 85 = .ok (.iconst (-1), 1) := by decide +kernel
theorem dX11_seed_86 : decode cX11_seed 86 = .ok (.putfield 79, 3) := by decide +kernel
theorem dX11_seed_89 : decode cX11_seed 89 = .ok (.iload 4, 2) := by decide +kernel
theorem dX11_seed_91 : decode cX11_seed 91 = .ok (.ifCond .ne 10, 3) := by decide +kernel
theorem dX11_seed_94 : decode cX11_seed 94 = .ok (.aload_n 0, 1) := by decide +kernel
theorem dX11_seed_95 : decode cX11_seed 95 = .ok (.getfield 239, 3) := by decide +kernel
theorem dX11_seed_98 : decode cX11_seed 98 = .ok (.goto 22, 3) := by decide +kernel
theorem dX11_seed_101 : decode cX11_seed 101 = .ok (.iload 4, 2) := by decide +kernel
theorem dX11_seed_103 : decode cX11_seed 103 = .ok (.iconst 1, 1) := by decide +kernel
theorem dX11_seed_104 : decode cX11_seed 104 = .ok (.if_icmp .ne 11, 3) := by decide +kernel
theorem dX11_seed_107 : decode cX11_seed 107 = .ok (.aload_n 0, 1) := by decide +kernel
theorem dX11_seed_108 : decode cX11_seed 108 = .ok (.getfield 249, 3) := by decide +kernel
theorem dX11_seed_111 : decode cX11_seed 111 = .ok (.i2l, 1) := by decide +kernel
theorem dX11_seed_112 : decode cX11_seed 112 = .ok (.goto 8, 3) := by decide +kernel
theorem dX11_seed_115 : decode cX11_seed 115 = .ok (.aload_n 0, 1) := by decide +kernel
theorem dX11_seed_116 : decode cX11_seed 116 = .ok (.getfield 246, 3) := by decide +kernel
theorem dX11_seed_119 : decode cX11_seed 119 = .ok (.i2l, 1) := by decide +kernel
theorem dX11_seed_120 : decode cX11_seed 120 = .ok (.lreturn, 1) := by decide +kernel
theorem dX11_moves_0 : decode cX11_moves 0 = .ok (.iload_n 3, 1) := by decide +kernel
theorem dX11_moves_1 : decode cX11_moves 1 = .ok (.ifCond .ne 10, 3) := by decide +kernel
theorem dX11_moves_4 : decode cX11_moves 4 = .ok (.aload_n 1, 1) := by decide +kernel
theorem dX11_moves_5 : decode cX11_moves 5 = .ok (.aload_n 0, 1) := by decide +kernel
theorem dX11_moves_6 : decode cX11_moves 6 = .ok (.getfield 370, 3) := by decide +kernel
theorem dX11_moves_9 : decode cX11_moves 9 = .ok (.iload_n 2, 1) := by decide +kernel
theorem dX11_moves_10 : decode cX11_moves 10 = .ok (.iastore, 1) := by decide +kernel
theorem dX11_moves_11 : decode cX11_moves 11 = .ok (.aload_n 0, 1) := by decide +kernel
theorem dX11_moves_12 : decode cX11_moves 12 = .ok (.dup, 1) := by decide +kernel
theorem dX11_moves_13 : decode cX11_moves 13 = .ok (.getfield 370, 3) := by decide +kernel
theorem dX11_moves_16 : decode cX11_moves 16 = .ok (.iconst 1, 1) := by decide +kernel
theorem dX11_moves_17 : decode cX11_moves 17 = .ok (.iadd, 1) := by decide +kernel
theorem dX11_moves_18 : decode cX11_moves 18 = .ok (.putfield 370, 3) := by decide +kernel
theorem dX11_moves_21 : decode cX11_moves 21 = .ok (.aload_n 1, 1) := by decide +kernel
theorem dX11_moves_22 : decode cX11_moves 22 = .ok (.aload_n 0, 1) := by decide +kernel
theorem dX11_moves_23 : decode cX11_moves 23 = .ok (.getfield 370, 3) := by decide +kernel
theorem dX11_moves_26 : decode cX11_moves 26 = .ok (.iconst 1, 1) := by decide +kernel
theorem dX11_moves_27 : decode cX11_moves 27 = .ok (.isub, 1) := by decide +kernel
theorem dX11_moves_28 : decode cX11_moves 28 = .ok (.iaload, 1) := by decide +kernel
theorem dX11_moves_29 : decode cX11_moves 29 = .ok (.ireturn, 1) := by decide +kernel
theorem dX11_movesAll_0 : decode cX11_movesAll 0 = .ok (.aload_n 0, 1) := by decide +kernel
theorem dX11_movesAll_1 : decode cX11_movesAll 1 = .ok (.iconst 0, 1) := by decide +kernel
theorem dX11_movesAll_2 : decode cX11_movesAll 2 = .ok (.putfield 370, 3) := by decide +kernel
theorem dX11_movesAll_5 : decode cX11_movesAll 5 = .ok (.aload_n 0, 1) := by decide +kernel
theorem dX11_movesAll_6 : decode cX11_movesAll 6 = .ok (.aload_n 0, 1) := by decide +kernel
theorem dX11_movesAll_7 : decode cX11_movesAll 7 = .ok (.aload_n 1, 1) := by decide +kernel
theorem dX11_movesAll_8 : decode cX11_movesAll 8 = .ok (.aload_n 0, 1) := by decide +kernel
theorem dX11_movesAll_9 : decode cX11_movesAll 9 = .ok (.getfield 188, 3) := by decide +kernel
theorem dX11_movesAll_12 : decode cX11_movesAll 12 = .ok (.iload_n 2, 1) := by decide +kernel
theorem dX11_movesAll_13 : decode cX11_movesAll 13 = .ok (.invokevirtual 373, 3) := by decide +kernel
theorem dX11_movesAll_16 : decode cX11_movesAll 16 = .ok (.putfield 188, 3) := by decide +kernel
theorem dX11_movesAll_19 : decode cX11_movesAll 19 = .ok (.aload_n 0, 1) := by decide +kernel
theorem dX11_movesAll_20 : decode cX11_movesAll 20 = .ok (.aload_n 0, 1) := by decide +kernel
theorem dX11_movesAll_21 : decode cX11_movesAll 21 = .ok (.aload_n 1, 1) := by decide +kernel
theorem dX11_movesAll_22 : decode cX11_movesAll 22 = .ok (.aload_n 0, 1) := by decide +kernel
theorem dX11_movesAll_23 : decode cX11_movesAll 23 = .ok (.getfield 191, 3) := by decide +kernel
theorem dX11_movesAll_26 : decode cX11_movesAll 26 = .ok (.iload_n 2, 1) := by decide +kernel
theorem dX11_movesAll_27 : decode cX11_movesAll 27 = .ok (.invokevirtual 373, 3) := by decide +kernel
theorem dX11_movesAll_30 : decode cX11_movesAll 30 = .ok (.putfield 191, 3) := by decide +kernel
theorem dX11_movesAll_33 : decode cX11_movesAll 33 = .ok (.iconst 0, 1) := by decide +kernel
theorem dX11_movesAll_34 : decode cX11_movesAll 34 = .ok (.istore_n 3, 1) := by decide +kernel
theorem dX11_movesAll_35 : decode cX11_movesAll 35 = .ok (.iload_n 3, 1) := by decide +kernel
theorem dX11_movesAll_36 : decode cX11_movesAll 36 = .ok (.bipush 10, 2) := by decide +kernel
theorem dX11_movesAll_38 : decode cX11_movesAll 38 = .ok (.if_icmp .ge 45, 3) := by decide +kernel
theorem dX11_movesAll_41 : decode cX11_movesAll 41 = .ok (.aload_n 0, 1) := by decide +kernel
theorem dX11_movesAll_42 : decode cX11_movesAll 42 = .ok (.getfield 49, 3) := by decide +kernel
theorem dX11_movesAll_45 : decode cX11_movesAll 45 = .ok (.iload_n 3, 1) := by decide +kernel
theorem dX11_movesAll_46 : decode cX11_movesAll 46 = .ok (.aload_n 0, 1) := by decide +kernel
theorem dX11_movesAll_47 : decode cX11_movesAll 47 = .ok (.aload_n 1, 1) := by decide +kernel
theorem dX11_movesAll_48 : decode cX11_movesAll 48 = .ok (.aload_n 0, 1) := by decide +kernel
theorem dX11_movesAll_49 : decode cX11_movesAll 49 = .ok (.getfield 49, 3) := by decide +kernel
theorem dX11_movesAll_52 : decode cX11_movesAll 52 = .ok (.iload_n 3, 1) := by decide +kernel
theorem dX11_movesAll_53 : decode cX11_movesAll 53 = .ok (.iaload, 1) := by decide +kernel
theorem dX11_movesAll_54 : decode cX11_movesAll 54 = .ok (.iload_n 2, 1) := by decide +kernel
theorem dX11_movesAll_55 : decode cX11_movesAll 55 = .ok (.invokevirtual 373, 3) := by decide +kernel
theorem dX11_movesAll_58 : decode cX11_movesAll 58 = .ok (.iastore, 1) := by decide +kernel
theorem dX11_movesAll_59 : decode cX11_movesAll 59 = .ok (.aload_n 0, 1) := by decide +kernel
theorem dX11_movesAll_60 : decode cX11_movesAll 60 = .ok (.getfield 52, 3) := by decide +kernel
theorem dX11_movesAll_63 : decode cX11_movesAll 63 = .ok (.iload_n 3, 1) := by decide +kernel
theorem dX11_movesAll_64 : decode cX11_movesAll 64 = .ok (.aload_n 0, 1) := by decide +kernel
theorem dX11_movesAll_65 : decode cX11_movesAll 65 = .ok (.aload_n 1, 1) := by decide +kernel
theorem dX11_movesAll_66 : decode cX11_movesAll 66 = .ok (.aload_n 0, 1) := by decide +kernel
theorem dX11_movesAll_67 : decode cX11_movesAll 67 = .ok (.getfield 52, 3) := by decide +kernel
theorem dX11_movesAll_70 : decode cX11_movesAll 70 = .ok (.iload_n 3, 1) := by decide +kernel
theorem dX11_movesAll_71 : decode cX11_movesAll 71 = .ok (.iaload, 1) := by decide +kernel
theorem dX11_movesAll_72 : decode cX11_movesAll 72 = .ok (.iload_n 2, 1) := by decide +kernel
theorem dX11_movesAll_73 : decode cX11_movesAll 73 = .ok (.invokevirtual 373, 3) := by decide +kernel
theorem dX11_movesAll_76 : decode cX11_movesAll 76 = .ok (.iastore, 1) := by decide +kernel
theorem dX11_movesAll_77 : decode cX11_movesAll 77 = .ok (.iinc 3 1, 3) := by decide +kernel
theorem dX11_movesAll_80 : decode cX11_movesAll 80 = .ok (.goto (-45), 3) := by decide +kernel
theorem dX11_movesAll_83 : decode cX11_movesAll 83 = .ok (.iconst 0, 1) := by decide +kernel
theorem dX11_movesAll_84 : decode cX11_movesAll 84 = .ok (.istore_n 3, 1) := by decide +kernel
theorem dX11_movesAll_85 : decode cX11_movesAll 85 = .ok (.iload_n 3, 1) := by decide +kernel
theorem dX11_movesAll_86 : decode cX11_movesAll 86 = .ok (.bipush 30, 2) := by decide +kernel
theorem dX11_movesAll_88 : decode cX11_movesAll 88 = .ok (.if_icmp .ge 27, 3) := by decide +kernel
theorem dX11_movesAll_91 : decode cX11_movesAll 91 = .ok (.aload_n 0, 1) := by decide +kernel
theorem dX11_movesAll_92 : decode cX11_movesAll 92 = .ok (.getfield 55, 3) := by decide +kernel
theorem dX11_movesAll_95 : decode cX11_movesAll 95 = .ok (.iload_n 3, 1) := by decide +kernel
theorem dX11_movesAll_96 : decode cX11_movesAll 96 = .ok (.aload_n 0, 1) := by decide +kernel
theorem dX11_movesAll_97 : decode cX11_movesAll 97 = .ok (.aload_n 1, 1) := by decide +kernel
theorem dX11_movesAll_98 : decode cX11_movesAll 98 = .ok (.aload_n 0, 1) := by decide +kernel
theorem dX11_movesAll_99 : decode cX11_movesAll 99 = .ok (.getfield 55, 3) := by decide +kernel
theorem dX11_movesAll_102 : decode cX11_movesAll 102 = .ok (.iload_n 3, 1) := by decide +kernel
theorem dX11_movesAll_103 : decode cX11_movesAll 103 = .ok (.iaload, 1) := by decide +kernel
theorem dX11_movesAll_104 : decode cX11_movesAll 104 = .ok (.iload_n 2, 1) := by decide +kernel
theorem dX11_movesAll_105 : decode cX11_movesAll 105 = .ok (.invokevirtual 373, 3) := by decide +kernel
theorem dX11_movesAll_108 : decode cX11_movesAll 108 = .ok (.iastore, 1) := by decide +kernel
theorem dX11_movesAll_109 : decode cX11_movesAll 109 = .ok (.iinc 3 1, 3) := by decide +kernel
theorem dX11_movesAll_112 : decode cX11_movesAll 112 = .ok (.goto (-27), 3) := by decide +kernel
theorem dX11_movesAll_115 : decode cX11_movesAll 115 = .ok (.return_, 1) := by decide +kernel
theorem dX11_image_0 : decode cX11_image 0 = .ok (.aload_n 0, 1) := by decide +kernel
theorem dX11_image_1 : decode cX11_image 1 = .ok (.iconst 0, 1) := by decide +kernel
theorem dX11_image_2 : decode cX11_image 2 = .ok (.putfield 104, 3) := by decide +kernel
theorem dX11_image_5 : decode cX11_image 5 = .ok (.aload_n 0, 1) := by decide +kernel
theorem dX11_image_6 : decode cX11_image 6 = .ok (.getfield 194, 3) := by decide +kernel
theorem dX11_image_9 : decode cX11_image 9 = .ok (.iconst 3, 1) := by decide +kernel
theorem dX11_image_10 : decode cX11_image 10 = .ok (.if_icmp .ne 5, 3) := by decide +kernel
theorem dX11_image_13 : decode cX11_image 13 = .ok (.iconst (-1), 1) := by decide +kernel
theorem dX11_image_14 : decode cX11_image 14 = .ok (.ireturn, 1) := by decide +kernel
theorem dX11_image_15 : decode cX11_image 15 = .ok (.aload_n 0, 1) := by decide +kernel
theorem dX11_image_16 : decode cX11_image 16 = .ok (.aload_n 0, 1) := by decide +kernel
theorem dX11_image_17 : decode cX11_image 17 = .ok (.getfield 58, 3) := by decide +kernel
theorem dX11_image_20 : decode cX11_image 20 = .ok (.aload_n 0, 1) := by decide +kernel
theorem dX11_image_21 : decode cX11_image 21 = .ok (.getfield 194, 3) := by decide +kernel
theorem dX11_image_24 : decode cX11_image 24 = .ok (.aaload, 1) := by decide +kernel
theorem dX11_image_25 : decode cX11_image 25 = .ok (.iconst 0, 1) := by decide +kernel
theorem dX11_image_26 : decode cX11_image 26 = .ok (.invokevirtual 377, 3) := by decide +kernel
theorem dX11_image_29 : decode cX11_image 29 = .ok (.aload_n 0, 1) := by decide +kernel
theorem dX11_image_30 : decode cX11_image 30 = .ok (.dup, 1) := by decide +kernel
theorem dX11_image_31 : decode cX11_image 31 = .ok (.getfield 194, 3) := by decide +kernel
theorem dX11_image_34 : decode cX11_image 34 = .ok (.iconst 1, 1) := by decide +kernel
theorem dX11_image_35 : decode cX11_image 35 = .ok (.iadd, 1) := by decide +kernel
theorem dX11_image_36 : decode cX11_image 36 = .ok (.putfield 194, 3) := by decide +kernel
theorem dX11_image_39 : decode cX11_image 39 = .ok (.aload_n 0, 1) := by decide +kernel
theorem dX11_image_40 : decode cX11_image 40 = .ok (.getfield 194, 3) := by decide +kernel
theorem dX11_image_43 : decode cX11_image 43 = .ok (.ireturn, 1) := by decide +kernel
theorem dX11_on_0 : decode cX11_on 0 = .ok (.aload_n 0, 1) := by decide +kernel
theorem dX11_on_1 : decode cX11_on 1 = .ok (.iconst 0, 1) := by decide +kernel
theorem dX11_on_2 : decode cX11_on 2 = .ok (.putfield 104, 3) := by decide +kernel
theorem dX11_on_5 : decode cX11_on 5 = .ok (.aload_n 0, 1) := by decide +kernel
theorem dX11_on_6 : decode cX11_on 6 = .ok (.getfield 194, 3) := by decide +kernel
theorem dX11_on_9 : decode cX11_on 9 = .ok (.ifCond .ne 5, 3) := by decide +kernel
theorem dX11_on_12 : decode cX11_on 12 = .ok (.iconst (-1), 1) := by decide +kernel
theorem dX11_on_13 : decode cX11_on 13 = .ok (.ireturn, 1) := by decide +kernel
theorem dX11_on_14 : decode cX11_on 14 = .ok (.aload_n 0, 1) := by decide +kernel
theorem dX11_on_15 : decode cX11_on 15 = .ok (.dup, 1) := by decide +kernel
theorem dX11_on_16 : decode cX11_on 16 = .ok (.getfield 194, 3) := by decide +kernel
theorem dX11_on_19 : decode cX11_on 19 = .ok (.iconst 1, 1) := by decide +kernel
theorem dX11_on_20 : decode cX11_on 20 = .ok (.isub, 1) := by decide +kernel
theorem dX11_on_21 : decode cX11_on 21 = .ok (.putfield 194, 3) := by decide +kernel
theorem dX11_on_24 : decode cX11_on 24 = .ok (.aload_n 0, 1) := by decide +kernel
theorem dX11_on_25 : decode cX11_on 25 = .ok (.aload_n 0, 1) := by decide +kernel
theorem dX11_on_26 : decode cX11_on 26 = .ok (.getfield 58, 3) := by decide +kernel
theorem dX11_on_29 : decode cX11_on 29 = .ok (.aload_n 0, 1) := by decide +kernel
theorem dX11_on_30 : decode cX11_on 30 = .ok (.getfield 194, 3) := by decide +kernel
theorem dX11_on_33 : decode cX11_on 33 = .ok (.aaload, 1) := by decide +kernel
theorem dX11_on_34 : decode cX11_on 34 = .ok (.iconst 1, 1) := by decide +kernel
theorem dX11_on_35 : decode cX11_on 35 = .ok (.invokevirtual 377, 3) := by decide +kernel
theorem dX11_on_38 : decode cX11_on 38 = .ok (.aload_n 0, 1) := by decide +kernel
theorem dX11_on_39 : decode cX11_on 39 = .ok (.getfield 194, 3) := by decide +kernel
theorem dX11_on_42 : decode cX11_on 42 = .ok (.ireturn, 1) := by decide +kernel
theorem dX11_count_0 : decode cX11_count 0 = .ok (.aload_n 0, 1) := by decide +kernel
theorem dX11_count_1 : decode cX11_count 1 = .ok (.iconst 0, 1) := by decide +kernel
theorem dX11_count_2 : decode cX11_count 2 = .ok (.putfield 104, 3) := by decide +kernel
theorem dX11_count_5 : decode cX11_count 5 = .ok (.iload_n 1, 1) := by decide +kernel
theorem dX11_count_6 : decode cX11_count 6 = .ok (.ifCond .ne 10, 3) := by decide +kernel
theorem dX11_count_9 : decode cX11_count 9 = .ok (.aload_n 0, 1) := by decide +kernel
theorem dX11_count_10 : decode cX11_count 10 = .ok (.getfield 191, 3) := by decide +kernel
theorem dX11_count_13 : decode cX11_count 13 = .ok (.goto 28, 3) := by decide +kernel
theorem dX11_count_16 : decode cX11_count 16 = .ok (.iload_n 1, 1) := by decide +kernel
theorem dX11_count_17 : decode cX11_count 17 = .ok (.iconst 1, 1) := by decide +kernel
theorem dX11_count_18 : decode cX11_count 18 = .ok (.if_icmp .ne 10, 3) := by decide +kernel
theorem dX11_count_21 : decode cX11_count 21 = .ok (.aload_n 0, 1) := by decide +kernel
theorem dX11_count_22 : decode cX11_count 22 = .ok (.getfield 194, 3) := by decide +kernel
theorem dX11_count_25 : decode cX11_count 25 = .ok (.goto 16, 3) := by decide +kernel
theorem dX11_count_28 : decode cX11_count 28 = .ok (.iload_n 1, 1) := by decide +kernel
theorem dX11_count_29 : decode cX11_count 29 = .ok (.iconst 2, 1) := by decide +kernel
theorem dX11_count_30 : decode cX11_count 30 = .ok (.if_icmp .ne 10, 3) := by decide +kernel
theorem dX11_count_33 : decode cX11_count 33 = .ok (.aload_n 0, 1) := by decide +kernel
theorem dX11_count_34 : decode cX11_count 34 = .ok (.getfield 107, 3) := by decide +kernel
theorem dX11_count_37 : decode cX11_count 37 = .ok (.goto 4, 3) := by decide +kernel
theorem dX11_count_40 : decode cX11_count 40 = .ok (.iconst (-1), 1) := by decide +kernel
theorem dX11_count_41 : decode cX11_count 41 = .ok (.ireturn, 1) := by decide +kernel
