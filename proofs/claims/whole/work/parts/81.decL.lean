theorem dLW_law_0 : decode cLW_law 0 = .ok (.new 7, 3) := by decide +kernel
theorem dLW_law_3 : decode cLW_law 3 = .ok (.dup, 1) := by decide +kernel
theorem dLW_law_4 : decode cLW_law 4 = .ok (.invokespecial 9, 3) := by decide +kernel
theorem dLW_law_7 : decode cLW_law 7 = .ok (.astore_n 1, 1) := by decide +kernel
theorem dLW_law_8 : decode cLW_law 8 = .ok (.new 10, 3) := by decide +kernel
theorem dLW_law_11 : decode cLW_law 11 = .ok (.dup, 1) := by decide +kernel
theorem dLW_law_12 : decode cLW_law 12 = .ok (.invokespecial 12, 3) := by decide +kernel
theorem dLW_law_15 : decode cLW_law 15 = .ok (.astore_n 2, 1) := by decide +kernel
theorem dLW_law_16 : decode cLW_law 16 = .ok (.iconst 0, 1) := by decide +kernel
theorem dLW_law_17 : decode cLW_law 17 = .ok (.istore_n 3, 1) := by decide +kernel
theorem dLW_law_18 : decode cLW_law 18 = .ok (.iload_n 3, 1) := by decide +kernel
theorem dLW_law_19 : decode cLW_law 19 = .ok (.aload_n 0, 1) := by decide +kernel
theorem dLW_law_20 : decode cLW_law 20 = .ok (.arraylength, 1) := by decide +kernel
theorem dLW_law_21 : decode cLW_law 21 = .ok (.bipush 6, 2) := by decide +kernel
theorem dLW_law_23 : decode cLW_law 23 = .ok (.isub, 1) := by decide +kernel
theorem dLW_law_24 : decode cLW_law 24 = .ok (.if_icmp .gt 276, 3) := by decide +kernel
theorem dLW_law_27 : decode cLW_law 27 = .ok (.aload_n 0, 1) := by decide +kernel
theorem dLW_law_28 : decode cLW_law 28 = .ok (.iload_n 3, 1) := by decide +kernel
theorem dLW_law_29 : decode cLW_law 29 = .ok (.iaload, 1) := by decide +kernel
theorem dLW_law_30 : decode cLW_law 30 = .ok (.bipush 7, 2) := by decide +kernel
theorem dLW_law_32 : decode cLW_law 32 = .ok (.iand, 1) := by decide +kernel
theorem dLW_law_33 : decode cLW_law 33 = .ok (.tableswitch 261 0 7 #[47, 110, 133, 146, 179, 212, 235, 248], 47) := by decide +kernel
theorem dLW_law_80 : decode cLW_law 80 = .ok (.aload_n 1, 1) := by decide +kernel
theorem dLW_law_81 : decode cLW_law 81 = .ok (.aload_n 0, 1) := by decide +kernel
theorem dLW_law_82 : decode cLW_law 82 = .ok (.iload_n 3, 1) := by decide +kernel
theorem dLW_law_83 : decode cLW_law 83 = .ok (.iconst 1, 1) := by decide +kernel
theorem dLW_law_84 : decode cLW_law 84 = .ok (.iadd, 1) := by decide +kernel
theorem dLW_law_85 : decode cLW_law 85 = .ok (.iaload, 1) := by decide +kernel
theorem dLW_law_86 : decode cLW_law 86 = .ok (.aload_n 0, 1) := by decide +kernel
theorem dLW_law_87 : decode cLW_law 87 = .ok (.iload_n 3, 1) := by decide +kernel
theorem dLW_law_88 : decode cLW_law 88 = .ok (.iconst 2, 1) := by decide +kernel
theorem dLW_law_89 : decode cLW_law 89 = .ok (.iadd, 1) := by decide +kernel
theorem dLW_law_90 : decode cLW_law 90 = .ok (.iaload, 1) := by decide +kernel
theorem dLW_law_91 : decode cLW_law 91 = .ok (.aload_n 0, 1) := by decide +kernel
theorem dLW_law_92 : decode cLW_law 92 = .ok (.iload_n 3, 1) := by decide +kernel
theorem dLW_law_93 : decode cLW_law 93 = .ok (.iconst 3, 1) := by decide +kernel
theorem dLW_law_94 : decode cLW_law 94 = .ok (.iadd, 1) := by decide +kernel
theorem dLW_law_95 : decode cLW_law 95 = .ok (.iaload, 1) := by decide +kernel
theorem dLW_law_96 : decode cLW_law 96 = .ok (.aload_n 0, 1) := by decide +kernel
theorem dLW_law_97 : decode cLW_law 97 = .ok (.iload_n 3, 1) := by decide +kernel
theorem dLW_law_98 : decode cLW_law 98 = .ok (.iconst 4, 1) := by decide +kernel
theorem dLW_law_99 : decode cLW_law 99 = .ok (.iadd, 1) := by decide +kernel
theorem dLW_law_100 : decode cLW_law 100 = .ok (.iaload, 1) := by decide +kernel
theorem dLW_law_101 : decode cLW_law 101 = .ok (.aload_n 0, 1) := by decide +kernel
theorem dLW_law_102 : decode cLW_law 102 = .ok (.iload_n 3, 1) := by decide +kernel
theorem dLW_law_103 : decode cLW_law 103 = .ok (.iconst 5, 1) := by decide +kernel
theorem dLW_law_104 : decode cLW_law 104 = .ok (.iadd, 1) := by decide +kernel
theorem dLW_law_105 : decode cLW_law 105 = .ok (.iaload, 1) := by decide +kernel
theorem dLW_law_106 : decode cLW_law 106 = .ok (.invokevirtual 13, 3) := by decide +kernel
theorem dLW_law_109 : decode cLW_law 109 = .ok (.aload_n 2, 1) := by decide +kernel
theorem dLW_law_110 : decode cLW_law 110 = .ok (.aload_n 0, 1) := by decide +kernel
theorem dLW_law_111 : decode cLW_law 111 = .ok (.iload_n 3, 1) := by decide +kernel
theorem dLW_law_112 : decode cLW_law 112 = .ok (.iconst 1, 1) := by decide +kernel
theorem dLW_law_113 : decode cLW_law 113 = .ok (.iadd, 1) := by decide +kernel
theorem dLW_law_114 : decode cLW_law 114 = .ok (.iaload, 1) := by decide +kernel
theorem dLW_law_115 : decode cLW_law 115 = .ok (.aload_n 0, 1) := by decide +kernel
theorem dLW_law_116 : decode cLW_law 116 = .ok (.iload_n 3, 1) := by decide +kernel
theorem dLW_law_117 : decode cLW_law 117 = .ok (.iconst 2, 1) := by decide +kernel
theorem dLW_law_118 : decode cLW_law 118 = .ok (.iadd, 1) := by decide +kernel
theorem dLW_law_119 : decode cLW_law 119 = .ok (.iaload, 1) := by decide +kernel
theorem dLW_law_120 : decode cLW_law 120 = .ok (.aload_n 0, 1) := by decide +kernel
theorem dLW_law_121 : decode cLW_law 121 = .ok (.iload_n 3, 1) := by decide +kernel
theorem dLW_law_122 : decode cLW_law 122 = .ok (.iconst 3, 1) := by decide +kernel
theorem dLW_law_123 : decode cLW_law 123 = .ok (.iadd, 1) := by decide +kernel
theorem dLW_law_124 : decode cLW_law 124 = .ok (.iaload, 1) := by decide +kernel
theorem dLW_law_125 : decode cLW_law 125 = .ok (.aload_n 0, 1) := by decide +kernel
theorem dLW_law_126 : decode cLW_law 126 = .ok (.iload_n 3, 1) := by decide +kernel
theorem dLW_law_127 : decode cLW_law 127 = .ok (.iconst 4, 1) := by decide +kernel
theorem dLW_law_128 : decode cLW_law 128 = .ok (.iadd, 1) := by decide +kernel
theorem dLW_law_129 : decode cLW_law 129 = .ok (.iaload, 1) := by decide +kernel
theorem dLW_law_130 : decode cLW_law 130 = .ok (.aload_n 0, 1) := by decide +kernel
theorem dLW_law_131 : decode cLW_law 131 = .ok (.iload_n 3, 1) := by decide +kernel
theorem dLW_law_132 : decode cLW_law 132 = .ok (.iconst 5, 1) := by decide +kernel
theorem dLW_law_133 : decode cLW_law 133 = .ok (.iadd, 1) := by decide +kernel
theorem dLW_law_134 : decode cLW_law 134 = .ok (.iaload, 1) := by decide +kernel
theorem dLW_law_135 : decode cLW_law 135 = .ok (.invokevirtual 17, 3) := by decide +kernel
theorem dLW_law_138 : decode cLW_law 138 = .ok (.if_icmp .eq 156, 3) := by decide +kernel
theorem dLW_law_141 : decode cLW_law 141 = .ok (.iconst 0, 1) := by decide +kernel
theorem dLW_law_142 : decode cLW_law 142 = .ok (.ireturn, 1) := by decide +kernel
theorem dLW_law_143 : decode cLW_law 143 = .ok (.aload_n 1, 1) := by decide +kernel
theorem dLW_law_144 : decode cLW_law 144 = .ok (.aload_n 0, 1) := by decide +kernel
theorem dLW_law_145 : decode cLW_law 145 = .ok (.iload_n 3, 1) := by decide +kernel
theorem dLW_law_146 : decode cLW_law 146 = .ok (.iconst 1, 1) := by decide +kernel
theorem dLW_law_147 : decode cLW_law 147 = .ok (.iadd, 1) := by decide +kernel
theorem dLW_law_148 : decode cLW_law 148 = .ok (.iaload, 1) := by decide +kernel
theorem dLW_law_149 : decode cLW_law 149 = .ok (.invokevirtual 18, 3) := by decide +kernel
theorem dLW_law_152 : decode cLW_law 152 = .ok (.aload_n 2, 1) := by decide +kernel
theorem dLW_law_153 : decode cLW_law 153 = .ok (.aload_n 0, 1) := by decide +kernel
theorem dLW_law_154 : decode cLW_law 154 = .ok (.iload_n 3, 1) := by decide +kernel
theorem dLW_law_155 : decode cLW_law 155 = .ok (.iconst 1, 1) := by decide +kernel
theorem dLW_law_156 : decode cLW_law 156 = .ok (.iadd, 1) := by decide +kernel
theorem dLW_law_157 : decode cLW_law 157 = .ok (.iaload, 1) := by decide +kernel
theorem dLW_law_158 : decode cLW_law 158 = .ok (.invokevirtual 22, 3) := by decide +kernel
theorem dLW_law_161 : decode cLW_law 161 = .ok (.if_icmp .eq 133, 3) := by decide +kernel
theorem dLW_law_164 : decode cLW_law 164 = .ok (.iconst 0, 1) := by decide +kernel
theorem dLW_law_165 : decode cLW_law 165 = .ok (.ireturn, 1) := by decide +kernel
theorem dLW_law_166 : decode cLW_law 166 = .ok (.aload_n 1, 1) := by decide +kernel
theorem dLW_law_167 : decode cLW_law 167 = .ok (.invokevirtual 23, 3) := by decide +kernel
theorem dLW_law_170 : decode cLW_law 170 = .ok (.aload_n 2, 1) := by decide +kernel
theorem dLW_law_171 : decode cLW_law 171 = .ok (.invokevirtual 27, 3) := by decide +kernel
theorem dLW_law_174 : decode cLW_law 174 = .ok (.if_icmp .eq 120, 3) := by decide +kernel
theorem dLW_law_177 : decode cLW_law 177 = .ok (.iconst 0, 1) := by decide +kernel
theorem dLW_law_178 : decode cLW_law 178 = .ok (.ireturn, 1) := by decide +kernel
theorem dLW_law_179 : decode cLW_law 179 = .ok (.aload_n 1, 1) := by decide +kernel
theorem dLW_law_180 : decode cLW_law 180 = .ok (.aload_n 0, 1) := by decide +kernel
theorem dLW_law_181 : decode cLW_law 181 = .ok (.iload_n 3, 1) := by decide +kernel
theorem dLW_law_182 : decode cLW_law 182 = .ok (.iconst 1, 1) := by decide +kernel
theorem dLW_law_183 : decode cLW_law 183 = .ok (.iadd, 1) := by decide +kernel
theorem dLW_law_184 : decode cLW_law 184 = .ok (.iaload, 1) := by decide +kernel
theorem dLW_law_185 : decode cLW_law 185 = .ok (.aload_n 0, 1) := by decide +kernel
theorem dLW_law_186 : decode cLW_law 186 = .ok (.iload_n 3, 1) := by decide +kernel
theorem dLW_law_187 : decode cLW_law 187 = .ok (.iconst 2, 1) := by decide +kernel
theorem dLW_law_188 : decode cLW_law 188 = .ok (.iadd, 1) := by decide +kernel
theorem dLW_law_189 : decode cLW_law 189 = .ok (.iaload, 1) := by decide +kernel
theorem dLW_law_190 : decode cLW_law 190 = .ok (.invokevirtual 28, 3) := by decide +kernel
theorem dLW_law_193 : decode cLW_law 193 = .ok (.aload_n 2, 1) := by decide +kernel
theorem dLW_law_194 : decode cLW_law 194 = .ok (.aload_n 0, 1) := by decide +kernel
theorem dLW_law_195 : decode cLW_law 195 = .ok (.iload_n 3, 1) := by decide +kernel
theorem dLW_law_196 : decode cLW_law 196 = .ok (.iconst 1, 1) := by decide +kernel
theorem dLW_law_197 : decode cLW_law 197 = .ok (.iadd, 1) := by decide +kernel
theorem dLW_law_198 : decode cLW_law 198 = .ok (.iaload, 1) := by decide +kernel
theorem dLW_law_199 : decode cLW_law 199 = .ok (.aload_n 0, 1) := by decide +kernel
theorem dLW_law_200 : decode cLW_law 200 = .ok (.iload_n 3, 1) := by decide +kernel
theorem dLW_law_201 : decode cLW_law 201 = .ok (.iconst 2, 1) := by decide +kernel
theorem dLW_law_202 : decode cLW_law 202 = .ok (.iadd, 1) := by decide +kernel
theorem dLW_law_203 : decode cLW_law 203 = .ok (.iaload, 1) := by decide +kernel
theorem dLW_law_204 : decode cLW_law 204 = .ok (.invokevirtual 32, 3) := by decide +kernel
theorem dLW_law_207 : decode cLW_law 207 = .ok (.if_icmp .eq 87, 3) := by decide +kernel
theorem dLW_law_210 : decode cLW_law 210 = .ok (.iconst 0, 1) := by decide +kernel
theorem dLW_law_211 : decode cLW_law 211 = .ok (.ireturn, 1) := by decide +kernel
theorem dLW_law_212 : decode cLW_law 212 = .ok (.aload_n 1, 1) := by decide +kernel
theorem dLW_law_213 : decode cLW_law 213 = .ok (.aload_n 0, 1) := by decide +kernel
theorem dLW_law_214 : decode cLW_law 214 = .ok (.iload_n 3, 1) := by decide +kernel
theorem dLW_law_215 : decode cLW_law 215 = .ok (.iconst 1, 1) := by decide +kernel
theorem dLW_law_216 : decode cLW_law 216 = .ok (.iadd, 1) := by decide +kernel
theorem dLW_law_217 : decode cLW_law 217 = .ok (.iaload, 1) := by decide +kernel
theorem dLW_law_218 : decode cLW_law 218 = .ok (.aload_n 0, 1) := by decide +kernel
theorem dLW_law_219 : decode cLW_law 219 = .ok (.iload_n 3, 1) := by decide +kernel
theorem dLW_law_220 : decode cLW_law 220 = .ok (.iconst 2, 1) := by decide +kernel
theorem dLW_law_221 : decode cLW_law 221 = .ok (.iadd, 1) := by decide +kernel
theorem dLW_law_222 : decode cLW_law 222 = .ok (.iaload, 1) := by decide +kernel
theorem dLW_law_223 : decode cLW_law 223 = .ok (.invokevirtual 33, 3) := by decide +kernel
theorem dLW_law_226 : decode cLW_law 226 = .ok (.aload_n 2, 1) := by decide +kernel
theorem dLW_law_227 : decode cLW_law 227 = .ok (.aload_n 0, 1) := by decide +kernel
theorem dLW_law_228 : decode cLW_law 228 = .ok (.iload_n 3, 1) := by decide +kernel
theorem dLW_law_229 : decode cLW_law 229 = .ok (.iconst 1, 1) := by decide +kernel
theorem dLW_law_230 : decode cLW_law 230 = .ok (.iadd, 1) := by decide +kernel
theorem dLW_law_231 : decode cLW_law 231 = .ok (.iaload, 1) := by decide +kernel
theorem dLW_law_232 : decode cLW_law 232 = .ok (.aload_n 0, 1) := by decide +kernel
theorem dLW_law_233 : decode cLW_law 233 = .ok (.iload_n 3, 1) := by decide +kernel
theorem dLW_law_234 : decode cLW_law 234 = .ok (.iconst 2, 1) := by decide +kernel
theorem dLW_law_235 : decode cLW_law 235 = .ok (.iadd, 1) := by decide +kernel
theorem dLW_law_236 : decode cLW_law 236 = .ok (.iaload, 1) := by decide +kernel
theorem dLW_law_237 : decode cLW_law 237 = .ok (.invokevirtual 36, 3) := by decide +kernel
theorem dLW_law_240 : decode cLW_law 240 = .ok (.if_icmp .eq 54, 3) := by decide +kernel
theorem dLW_law_243 : decode cLW_law 243 = .ok (.iconst 0, 1) := by decide +kernel
theorem dLW_law_244 : decode cLW_law 244 = .ok (.ireturn, 1) := by decide +kernel
theorem dLW_law_245 : decode cLW_law 245 = .ok (.aload_n 1, 1) := by decide +kernel
theorem dLW_law_246 : decode cLW_law 246 = .ok (.aload_n 0, 1) := by decide +kernel
theorem dLW_law_247 : decode cLW_law 247 = .ok (.iload_n 3, 1) := by decide +kernel
theorem dLW_law_248 : decode cLW_law 248 = .ok (.iconst 1, 1) := by decide +kernel
theorem dLW_law_249 : decode cLW_law 249 = .ok (.iadd, 1) := by decide +kernel
theorem dLW_law_250 : decode cLW_law 250 = .ok (.iaload, 1) := by decide +kernel
theorem dLW_law_251 : decode cLW_law 251 = .ok (.invokevirtual 37, 3) := by decide +kernel
theorem dLW_law_254 : decode cLW_law 254 = .ok (.aload_n 2, 1) := by decide +kernel
theorem dLW_law_255 : decode cLW_law 255 = .ok (.aload_n 0, 1) := by decide +kernel
theorem dLW_law_256 : decode cLW_law 256 = .ok (.iload_n 3, 1) := by decide +kernel
theorem dLW_law_257 : decode cLW_law 257 = .ok (.iconst 1, 1) := by decide +kernel
theorem dLW_law_258 : decode cLW_law 258 = .ok (.iadd, 1) := by decide +kernel
theorem dLW_law_259 : decode cLW_law 259 = .ok (.iaload, 1) := by decide +kernel
theorem dLW_law_260 : decode cLW_law 260 = .ok (.invokevirtual 40, 3) := by decide +kernel
theorem dLW_law_263 : decode cLW_law 263 = .ok (.if_icmp .eq 31, 3) := by decide +kernel
theorem dLW_law_266 : decode cLW_law 266 = .ok (.iconst 0, 1) := by decide +kernel
theorem dLW_law_267 : decode cLW_law 267 = .ok (.ireturn, 1) := by decide +kernel
theorem dLW_law_268 : decode cLW_law 268 = .ok (.aload_n 1, 1) := by decide +kernel
theorem dLW_law_269 : decode cLW_law 269 = .ok (.invokevirtual 41, 3) := by decide +kernel
theorem dLW_law_272 : decode cLW_law 272 = .ok (.aload_n 2, 1) := by decide +kernel
theorem dLW_law_273 : decode cLW_law 273 = .ok (.invokevirtual 44, 3) := by decide +kernel
theorem dLW_law_276 : decode cLW_law 276 = .ok (.if_icmp .eq 18, 3) := by decide +kernel
theorem dLW_law_279 : decode cLW_law 279 = .ok (.iconst 0, 1) := by decide +kernel
theorem dLW_law_280 : decode cLW_law 280 = .ok (.ireturn, 1) := by decide +kernel
theorem dLW_law_281 : decode cLW_law 281 = .ok (.aload_n 1, 1) := by decide +kernel
theorem dLW_law_282 : decode cLW_law 282 = .ok (.invokevirtual 45, 3) := by decide +kernel
theorem dLW_law_285 : decode cLW_law 285 = .ok (.aload_n 2, 1) := by decide +kernel
theorem dLW_law_286 : decode cLW_law 286 = .ok (.invokevirtual 48, 3) := by decide +kernel
theorem dLW_law_289 : decode cLW_law 289 = .ok (.if_icmp .eq 5, 3) := by decide +kernel
theorem dLW_law_292 : decode cLW_law 292 = .ok (.iconst 0, 1) := by decide +kernel
theorem dLW_law_293 : decode cLW_law 293 = .ok (.ireturn, 1) := by decide +kernel
theorem dLW_law_294 : decode cLW_law 294 = .ok (.iinc 3 6, 3) := by decide +kernel
theorem dLW_law_297 : decode cLW_law 297 = .ok (.goto (-279), 3) := by decide +kernel
theorem dLW_law_300 : decode cLW_law 300 = .ok (.iconst 1, 1) := by decide +kernel
theorem dLW_law_301 : decode cLW_law 301 = .ok (.ireturn, 1) := by decide +kernel
