/-! the law's own instructions -/
def m_W_law : yM := (⟨"MonitorYardLaw", "law", "([I)Z"⟩, code, 7, ret, room_1, [])
theorem d_W_law_0 : decode (yMb m_W_law) 0 = .ok (.new 8, 3) := by decide +kernel
theorem d_W_law_3 : decode (yMb m_W_law) 3 = .ok (.dup, 1) := by decide +kernel
theorem d_W_law_4 : decode (yMb m_W_law) 4 = .ok (.invokespecial 42, 3) := by decide +kernel
theorem d_W_law_7 : decode (yMb m_W_law) 7 = .ok (.astore_n 1, 1) := by decide +kernel
theorem d_W_law_8 : decode (yMb m_W_law) 8 = .ok (.new 43, 3) := by decide +kernel
theorem d_W_law_11 : decode (yMb m_W_law) 11 = .ok (.dup, 1) := by decide +kernel
theorem d_W_law_12 : decode (yMb m_W_law) 12 = .ok (.invokespecial 45, 3) := by decide +kernel
theorem d_W_law_15 : decode (yMb m_W_law) 15 = .ok (.astore_n 2, 1) := by decide +kernel
theorem d_W_law_16 : decode (yMb m_W_law) 16 = .ok (.iconst 1, 1) := by decide +kernel
theorem d_W_law_17 : decode (yMb m_W_law) 17 = .ok (.newarray .long, 2) := by decide +kernel
theorem d_W_law_19 : decode (yMb m_W_law) 19 = .ok (.astore_n 3, 1) := by decide +kernel
theorem d_W_law_20 : decode (yMb m_W_law) 20 = .ok (.iconst 0, 1) := by decide +kernel
theorem d_W_law_21 : decode (yMb m_W_law) 21 = .ok (.istore 4, 2) := by decide +kernel
theorem d_W_law_23 : decode (yMb m_W_law) 23 = .ok (.iload 4, 2) := by decide +kernel
theorem d_W_law_25 : decode (yMb m_W_law) 25 = .ok (.aload_n 0, 1) := by decide +kernel
theorem d_W_law_26 : decode (yMb m_W_law) 26 = .ok (.arraylength, 1) := by decide +kernel
theorem d_W_law_27 : decode (yMb m_W_law) 27 = .ok (.bipush 6, 2) := by decide +kernel
theorem d_W_law_29 : decode (yMb m_W_law) 29 = .ok (.isub, 1) := by decide +kernel
theorem d_W_law_30 : decode (yMb m_W_law) 30 = .ok (.if_icmp .gt 574, 3) := by decide +kernel
theorem d_W_law_33 : decode (yMb m_W_law) 33 = .ok (.aload_n 0, 1) := by decide +kernel
theorem d_W_law_34 : decode (yMb m_W_law) 34 = .ok (.iload 4, 2) := by decide +kernel
theorem d_W_law_36 : decode (yMb m_W_law) 36 = .ok (.iaload, 1) := by decide +kernel
theorem d_W_law_37 : decode (yMb m_W_law) 37 = .ok (.bipush 15, 2) := by decide +kernel
theorem d_W_law_39 : decode (yMb m_W_law) 39 = .ok (.iand, 1) := by decide +kernel
theorem d_W_law_40 : decode (yMb m_W_law) 40 = .ok (.tableswitch 558 0 8 #[52, 120, 224, 280, 316, 384, 452, 520, 533], 52) := by decide +kernel
theorem d_W_law_92 : decode (yMb m_W_law) 92 = .ok (.aload_n 1, 1) := by decide +kernel
theorem d_W_law_93 : decode (yMb m_W_law) 93 = .ok (.aload_n 0, 1) := by decide +kernel
theorem d_W_law_94 : decode (yMb m_W_law) 94 = .ok (.iload 4, 2) := by decide +kernel
theorem d_W_law_96 : decode (yMb m_W_law) 96 = .ok (.iconst 1, 1) := by decide +kernel
theorem d_W_law_97 : decode (yMb m_W_law) 97 = .ok (.iadd, 1) := by decide +kernel
theorem d_W_law_98 : decode (yMb m_W_law) 98 = .ok (.iaload, 1) := by decide +kernel
theorem d_W_law_99 : decode (yMb m_W_law) 99 = .ok (.aload_n 0, 1) := by decide +kernel
theorem d_W_law_100 : decode (yMb m_W_law) 100 = .ok (.iload 4, 2) := by decide +kernel
theorem d_W_law_102 : decode (yMb m_W_law) 102 = .ok (.iconst 2, 1) := by decide +kernel
theorem d_W_law_103 : decode (yMb m_W_law) 103 = .ok (.iadd, 1) := by decide +kernel
theorem d_W_law_104 : decode (yMb m_W_law) 104 = .ok (.iaload, 1) := by decide +kernel
theorem d_W_law_105 : decode (yMb m_W_law) 105 = .ok (.aload_n 3, 1) := by decide +kernel
theorem d_W_law_106 : decode (yMb m_W_law) 106 = .ok (.invokestatic 46, 3) := by decide +kernel
theorem d_W_law_109 : decode (yMb m_W_law) 109 = .ok (.istore 5, 2) := by decide +kernel
theorem d_W_law_111 : decode (yMb m_W_law) 111 = .ok (.aload_n 2, 1) := by decide +kernel
theorem d_W_law_112 : decode (yMb m_W_law) 112 = .ok (.aload_n 0, 1) := by decide +kernel
theorem d_W_law_113 : decode (yMb m_W_law) 113 = .ok (.iload 4, 2) := by decide +kernel
theorem d_W_law_115 : decode (yMb m_W_law) 115 = .ok (.iconst 1, 1) := by decide +kernel
theorem d_W_law_116 : decode (yMb m_W_law) 116 = .ok (.iadd, 1) := by decide +kernel
theorem d_W_law_117 : decode (yMb m_W_law) 117 = .ok (.iaload, 1) := by decide +kernel
theorem d_W_law_118 : decode (yMb m_W_law) 118 = .ok (.aload_n 0, 1) := by decide +kernel
theorem d_W_law_119 : decode (yMb m_W_law) 119 = .ok (.iload 4, 2) := by decide +kernel
theorem d_W_law_121 : decode (yMb m_W_law) 121 = .ok (.iconst 2, 1) := by decide +kernel
theorem d_W_law_122 : decode (yMb m_W_law) 122 = .ok (.iadd, 1) := by decide +kernel
theorem d_W_law_123 : decode (yMb m_W_law) 123 = .ok (.iaload, 1) := by decide +kernel
theorem d_W_law_124 : decode (yMb m_W_law) 124 = .ok (.invokevirtual 51, 3) := by decide +kernel
theorem d_W_law_127 : decode (yMb m_W_law) 127 = .ok (.istore 6, 2) := by decide +kernel
theorem d_W_law_129 : decode (yMb m_W_law) 129 = .ok (.aload_n 2, 1) := by decide +kernel
theorem d_W_law_130 : decode (yMb m_W_law) 130 = .ok (.invokevirtual 52, 3) := by decide +kernel
theorem d_W_law_133 : decode (yMb m_W_law) 133 = .ok (.iload 5, 2) := by decide +kernel
theorem d_W_law_135 : decode (yMb m_W_law) 135 = .ok (.if_icmp .eq 5, 3) := by decide +kernel
theorem d_W_law_138 : decode (yMb m_W_law) 138 = .ok (.iconst 0, 1) := by decide +kernel
theorem d_W_law_139 : decode (yMb m_W_law) 139 = .ok (.ireturn, 1) := by decide +kernel
theorem d_W_law_140 : decode (yMb m_W_law) 140 = .ok (.iload 5, 2) := by decide +kernel
theorem d_W_law_142 : decode (yMb m_W_law) 142 = .ok (.ifCond .ne 15, 3) := by decide +kernel
theorem d_W_law_145 : decode (yMb m_W_law) 145 = .ok (.aload_n 3, 1) := by decide +kernel
theorem d_W_law_146 : decode (yMb m_W_law) 146 = .ok (.iconst 0, 1) := by decide +kernel
theorem d_W_law_147 : decode (yMb m_W_law) 147 = .ok (.laload, 1) := by decide +kernel
theorem d_W_law_148 : decode (yMb m_W_law) 148 = .ok (.iload 6, 2) := by decide +kernel
theorem d_W_law_150 : decode (yMb m_W_law) 150 = .ok (.i2l, 1) := by decide +kernel
theorem d_W_law_151 : decode (yMb m_W_law) 151 = .ok (.lcmp, 1) := by decide +kernel
theorem d_W_law_152 : decode (yMb m_W_law) 152 = .ok (.ifCond .eq 5, 3) := by decide +kernel
theorem d_W_law_155 : decode (yMb m_W_law) 155 = .ok (.iconst 0, 1) := by decide +kernel
theorem d_W_law_156 : decode (yMb m_W_law) 156 = .ok (.ireturn, 1) := by decide +kernel
theorem d_W_law_157 : decode (yMb m_W_law) 157 = .ok (.goto 441, 3) := by decide +kernel
theorem d_W_law_160 : decode (yMb m_W_law) 160 = .ok (.aload_n 1, 1) := by decide +kernel
theorem d_W_law_161 : decode (yMb m_W_law) 161 = .ok (.aload_n 0, 1) := by decide +kernel
theorem d_W_law_162 : decode (yMb m_W_law) 162 = .ok (.iload 4, 2) := by decide +kernel
theorem d_W_law_164 : decode (yMb m_W_law) 164 = .ok (.iconst 1, 1) := by decide +kernel
theorem d_W_law_165 : decode (yMb m_W_law) 165 = .ok (.iadd, 1) := by decide +kernel
theorem d_W_law_166 : decode (yMb m_W_law) 166 = .ok (.iaload, 1) := by decide +kernel
theorem d_W_law_167 : decode (yMb m_W_law) 167 = .ok (.aload_n 0, 1) := by decide +kernel
theorem d_W_law_168 : decode (yMb m_W_law) 168 = .ok (.iload 4, 2) := by decide +kernel
theorem d_W_law_170 : decode (yMb m_W_law) 170 = .ok (.iconst 2, 1) := by decide +kernel
theorem d_W_law_171 : decode (yMb m_W_law) 171 = .ok (.iadd, 1) := by decide +kernel
theorem d_W_law_172 : decode (yMb m_W_law) 172 = .ok (.iaload, 1) := by decide +kernel
theorem d_W_law_173 : decode (yMb m_W_law) 173 = .ok (.aload_n 0, 1) := by decide +kernel
theorem d_W_law_174 : decode (yMb m_W_law) 174 = .ok (.iload 4, 2) := by decide +kernel
theorem d_W_law_176 : decode (yMb m_W_law) 176 = .ok (.iconst 3, 1) := by decide +kernel
theorem d_W_law_177 : decode (yMb m_W_law) 177 = .ok (.iadd, 1) := by decide +kernel
theorem d_W_law_178 : decode (yMb m_W_law) 178 = .ok (.iaload, 1) := by decide +kernel
theorem d_W_law_179 : decode (yMb m_W_law) 179 = .ok (.aload_n 0, 1) := by decide +kernel
theorem d_W_law_180 : decode (yMb m_W_law) 180 = .ok (.iload 4, 2) := by decide +kernel
theorem d_W_law_182 : decode (yMb m_W_law) 182 = .ok (.iconst 4, 1) := by decide +kernel
theorem d_W_law_183 : decode (yMb m_W_law) 183 = .ok (.iadd, 1) := by decide +kernel
theorem d_W_law_184 : decode (yMb m_W_law) 184 = .ok (.iaload, 1) := by decide +kernel
theorem d_W_law_185 : decode (yMb m_W_law) 185 = .ok (.aload_n 0, 1) := by decide +kernel
theorem d_W_law_186 : decode (yMb m_W_law) 186 = .ok (.iload 4, 2) := by decide +kernel
theorem d_W_law_188 : decode (yMb m_W_law) 188 = .ok (.iconst 5, 1) := by decide +kernel
theorem d_W_law_189 : decode (yMb m_W_law) 189 = .ok (.iadd, 1) := by decide +kernel
theorem d_W_law_190 : decode (yMb m_W_law) 190 = .ok (.iaload, 1) := by decide +kernel
theorem d_W_law_191 : decode (yMb m_W_law) 191 = .ok (.aload_n 3, 1) := by decide +kernel
theorem d_W_law_192 : decode (yMb m_W_law) 192 = .ok (.invokestatic 56, 3) := by decide +kernel
theorem d_W_law_195 : decode (yMb m_W_law) 195 = .ok (.istore 5, 2) := by decide +kernel
theorem d_W_law_197 : decode (yMb m_W_law) 197 = .ok (.aload_n 2, 1) := by decide +kernel
theorem d_W_law_198 : decode (yMb m_W_law) 198 = .ok (.aload_n 0, 1) := by decide +kernel
theorem d_W_law_199 : decode (yMb m_W_law) 199 = .ok (.iload 4, 2) := by decide +kernel
theorem d_W_law_201 : decode (yMb m_W_law) 201 = .ok (.iconst 1, 1) := by decide +kernel
theorem d_W_law_202 : decode (yMb m_W_law) 202 = .ok (.iadd, 1) := by decide +kernel
theorem d_W_law_203 : decode (yMb m_W_law) 203 = .ok (.iaload, 1) := by decide +kernel
theorem d_W_law_204 : decode (yMb m_W_law) 204 = .ok (.aload_n 0, 1) := by decide +kernel
theorem d_W_law_205 : decode (yMb m_W_law) 205 = .ok (.iload 4, 2) := by decide +kernel
theorem d_W_law_207 : decode (yMb m_W_law) 207 = .ok (.iconst 2, 1) := by decide +kernel
theorem d_W_law_208 : decode (yMb m_W_law) 208 = .ok (.iadd, 1) := by decide +kernel
theorem d_W_law_209 : decode (yMb m_W_law) 209 = .ok (.iaload, 1) := by decide +kernel
theorem d_W_law_210 : decode (yMb m_W_law) 210 = .ok (.aload_n 0, 1) := by decide +kernel
theorem d_W_law_211 : decode (yMb m_W_law) 211 = .ok (.iload 4, 2) := by decide +kernel
theorem d_W_law_213 : decode (yMb m_W_law) 213 = .ok (.iconst 3, 1) := by decide +kernel
theorem d_W_law_214 : decode (yMb m_W_law) 214 = .ok (.iadd, 1) := by decide +kernel
theorem d_W_law_215 : decode (yMb m_W_law) 215 = .ok (.iaload, 1) := by decide +kernel
theorem d_W_law_216 : decode (yMb m_W_law) 216 = .ok (.aload_n 0, 1) := by decide +kernel
theorem d_W_law_217 : decode (yMb m_W_law) 217 = .ok (.iload 4, 2) := by decide +kernel
theorem d_W_law_219 : decode (yMb m_W_law) 219 = .ok (.iconst 4, 1) := by decide +kernel
theorem d_W_law_220 : decode (yMb m_W_law) 220 = .ok (.iadd, 1) := by decide +kernel
theorem d_W_law_221 : decode (yMb m_W_law) 221 = .ok (.iaload, 1) := by decide +kernel
theorem d_W_law_222 : decode (yMb m_W_law) 222 = .ok (.aload_n 0, 1) := by decide +kernel
theorem d_W_law_223 : decode (yMb m_W_law) 223 = .ok (.iload 4, 2) := by decide +kernel
theorem d_W_law_225 : decode (yMb m_W_law) 225 = .ok (.iconst 5, 1) := by decide +kernel
theorem d_W_law_226 : decode (yMb m_W_law) 226 = .ok (.iadd, 1) := by decide +kernel
theorem d_W_law_227 : decode (yMb m_W_law) 227 = .ok (.iaload, 1) := by decide +kernel
theorem d_W_law_228 : decode (yMb m_W_law) 228 = .ok (.invokevirtual 59, 3) := by decide +kernel
theorem d_W_law_231 : decode (yMb m_W_law) 231 = .ok (.istore 6, 2) := by decide +kernel
theorem d_W_law_233 : decode (yMb m_W_law) 233 = .ok (.aload_n 2, 1) := by decide +kernel
theorem d_W_law_234 : decode (yMb m_W_law) 234 = .ok (.invokevirtual 52, 3) := by decide +kernel
theorem d_W_law_237 : decode (yMb m_W_law) 237 = .ok (.iload 5, 2) := by decide +kernel
theorem d_W_law_239 : decode (yMb m_W_law) 239 = .ok (.if_icmp .eq 5, 3) := by decide +kernel
theorem d_W_law_242 : decode (yMb m_W_law) 242 = .ok (.iconst 0, 1) := by decide +kernel
theorem d_W_law_243 : decode (yMb m_W_law) 243 = .ok (.ireturn, 1) := by decide +kernel
theorem d_W_law_244 : decode (yMb m_W_law) 244 = .ok (.iload 5, 2) := by decide +kernel
theorem d_W_law_246 : decode (yMb m_W_law) 246 = .ok (.ifCond .ne 15, 3) := by decide +kernel
theorem d_W_law_249 : decode (yMb m_W_law) 249 = .ok (.aload_n 3, 1) := by decide +kernel
theorem d_W_law_250 : decode (yMb m_W_law) 250 = .ok (.iconst 0, 1) := by decide +kernel
theorem d_W_law_251 : decode (yMb m_W_law) 251 = .ok (.laload, 1) := by decide +kernel
theorem d_W_law_252 : decode (yMb m_W_law) 252 = .ok (.iload 6, 2) := by decide +kernel
theorem d_W_law_254 : decode (yMb m_W_law) 254 = .ok (.i2l, 1) := by decide +kernel
theorem d_W_law_255 : decode (yMb m_W_law) 255 = .ok (.lcmp, 1) := by decide +kernel
theorem d_W_law_256 : decode (yMb m_W_law) 256 = .ok (.ifCond .eq 5, 3) := by decide +kernel
theorem d_W_law_259 : decode (yMb m_W_law) 259 = .ok (.iconst 0, 1) := by decide +kernel
theorem d_W_law_260 : decode (yMb m_W_law) 260 = .ok (.ireturn, 1) := by decide +kernel
theorem d_W_law_261 : decode (yMb m_W_law) 261 = .ok (.goto 337, 3) := by decide +kernel
theorem d_W_law_264 : decode (yMb m_W_law) 264 = .ok (.aload_n 1, 1) := by decide +kernel
theorem d_W_law_265 : decode (yMb m_W_law) 265 = .ok (.aload_n 0, 1) := by decide +kernel
theorem d_W_law_266 : decode (yMb m_W_law) 266 = .ok (.iload 4, 2) := by decide +kernel
theorem d_W_law_268 : decode (yMb m_W_law) 268 = .ok (.iconst 1, 1) := by decide +kernel
theorem d_W_law_269 : decode (yMb m_W_law) 269 = .ok (.iadd, 1) := by decide +kernel
theorem d_W_law_270 : decode (yMb m_W_law) 270 = .ok (.iaload, 1) := by decide +kernel
theorem d_W_law_271 : decode (yMb m_W_law) 271 = .ok (.aload_n 3, 1) := by decide +kernel
theorem d_W_law_272 : decode (yMb m_W_law) 272 = .ok (.invokestatic 60, 3) := by decide +kernel
theorem d_W_law_275 : decode (yMb m_W_law) 275 = .ok (.istore 5, 2) := by decide +kernel
theorem d_W_law_277 : decode (yMb m_W_law) 277 = .ok (.aload_n 2, 1) := by decide +kernel
theorem d_W_law_278 : decode (yMb m_W_law) 278 = .ok (.aload_n 0, 1) := by decide +kernel
theorem d_W_law_279 : decode (yMb m_W_law) 279 = .ok (.iload 4, 2) := by decide +kernel
theorem d_W_law_281 : decode (yMb m_W_law) 281 = .ok (.iconst 1, 1) := by decide +kernel
theorem d_W_law_282 : decode (yMb m_W_law) 282 = .ok (.iadd, 1) := by decide +kernel
theorem d_W_law_283 : decode (yMb m_W_law) 283 = .ok (.iaload, 1) := by decide +kernel
theorem d_W_law_284 : decode (yMb m_W_law) 284 = .ok (.invokevirtual 63, 3) := by decide +kernel
theorem d_W_law_287 : decode (yMb m_W_law) 287 = .ok (.istore 6, 2) := by decide +kernel
theorem d_W_law_289 : decode (yMb m_W_law) 289 = .ok (.aload_n 2, 1) := by decide +kernel
theorem d_W_law_290 : decode (yMb m_W_law) 290 = .ok (.invokevirtual 52, 3) := by decide +kernel
theorem d_W_law_293 : decode (yMb m_W_law) 293 = .ok (.iload 5, 2) := by decide +kernel
theorem d_W_law_295 : decode (yMb m_W_law) 295 = .ok (.if_icmp .eq 5, 3) := by decide +kernel
theorem d_W_law_298 : decode (yMb m_W_law) 298 = .ok (.iconst 0, 1) := by decide +kernel
theorem d_W_law_299 : decode (yMb m_W_law) 299 = .ok (.ireturn, 1) := by decide +kernel
theorem d_W_law_300 : decode (yMb m_W_law) 300 = .ok (.iload 5, 2) := by decide +kernel
theorem d_W_law_302 : decode (yMb m_W_law) 302 = .ok (.ifCond .ne 15, 3) := by decide +kernel
theorem d_W_law_305 : decode (yMb m_W_law) 305 = .ok (.aload_n 3, 1) := by decide +kernel
theorem d_W_law_306 : decode (yMb m_W_law) 306 = .ok (.iconst 0, 1) := by decide +kernel
theorem d_W_law_307 : decode (yMb m_W_law) 307 = .ok (.laload, 1) := by decide +kernel
theorem d_W_law_308 : decode (yMb m_W_law) 308 = .ok (.iload 6, 2) := by decide +kernel
theorem d_W_law_310 : decode (yMb m_W_law) 310 = .ok (.i2l, 1) := by decide +kernel
theorem d_W_law_311 : decode (yMb m_W_law) 311 = .ok (.lcmp, 1) := by decide +kernel
theorem d_W_law_312 : decode (yMb m_W_law) 312 = .ok (.ifCond .eq 5, 3) := by decide +kernel
theorem d_W_law_315 : decode (yMb m_W_law) 315 = .ok (.iconst 0, 1) := by decide +kernel
theorem d_W_law_316 : decode (yMb m_W_law) 316 = .ok (.ireturn, 1) := by decide +kernel
theorem d_W_law_317 : decode (yMb m_W_law) 317 = .ok (.goto 281, 3) := by decide +kernel
theorem d_W_law_320 : decode (yMb m_W_law) 320 = .ok (.aload_n 1, 1) := by decide +kernel
theorem d_W_law_321 : decode (yMb m_W_law) 321 = .ok (.aload_n 0, 1) := by decide +kernel
