theorem dX12_ringNext_7 : decode cX12_ringNext 7 = .ok (.if_icmp .gt 43, 3) := by decide +kernel
theorem dX12_ringNext_10 : decode cX12_ringNext 10 = .ok (.iconst 0, 1) := by decide +kernel
theorem dX12_ringNext_11 : decode cX12_ringNext 11 = .ok (.istore_n 2, 1) := by decide +kernel
theorem dX12_ringNext_12 : decode cX12_ringNext 12 = .ok (.iload_n 2, 1) := by decide +kernel
theorem dX12_ringNext_13 : decode cX12_ringNext 13 = .ok (.aload_n 0, 1) := by decide +kernel
theorem dX12_ringNext_14 : decode cX12_ringNext 14 = .ok (.invokevirtual 53, 3) := by decide +kernel
theorem dX12_ringNext_17 : decode cX12_ringNext 17 = .ok (.if_icmp .ge 27, 3) := by decide +kernel
theorem dX12_ringNext_20 : decode cX12_ringNext 20 = .ok (.aload_n 0, 1) := by decide +kernel
theorem dX12_ringNext_21 : decode cX12_ringNext 21 = .ok (.getfield 43, 3) := by decide +kernel
theorem dX12_ringNext_24 : decode cX12_ringNext 24 = .ok (.iconst 0, 1) := by decide +kernel
theorem dX12_ringNext_25 : decode cX12_ringNext 25 = .ok (.iload_n 2, 1) := by decide +kernel
theorem dX12_ringNext_26 : decode cX12_ringNext 26 = .ok (.iastore, 1) := by decide +kernel
theorem dX12_ringNext_27 : decode cX12_ringNext 27 = .ok (.aload_n 0, 1) := by decide +kernel
theorem dX12_ringNext_28 : decode cX12_ringNext 28 = .ok (.iconst 1, 1) := by decide +kernel
theorem dX12_ringNext_29 : decode cX12_ringNext 29 = .ok (.iload_n 1, 1) := by decide +kernel
theorem dX12_ringNext_30 : decode cX12_ringNext 30 = .ok (.invokevirtual 209, 3) := by decide +kernel
theorem dX12_ringNext_33 : decode cX12_ringNext 33 = .ok (.ifCond .eq 5, 3) := by decide +kernel
theorem dX12_ringNext_36 : decode cX12_ringNext 36 = .ok (.iload_n 1, 1) := by decide +kernel
theorem dX12_ringNext_37 : decode cX12_ringNext 37 = .ok (.ireturn, 1) := by decide +kernel
theorem dX12_ringNext_38 : decode cX12_ringNext 38 = .ok (.iinc 2 1, 3) := by decide +kernel
theorem dX12_ringNext_41 : decode cX12_ringNext 41 = .ok (.goto (-29), 3) := by decide +kernel
theorem dX12_ringNext_44 : decode cX12_ringNext 44 = .ok (.iinc 1 1, 3) := by decide +kernel
theorem dX12_ringNext_47 : decode cX12_ringNext 47 = .ok (.goto (-45), 3) := by decide +kernel
theorem dX12_ringNext_50 : decode cX12_ringNext 50 = .ok (.iconst 0, 1) := by decide +kernel
theorem dX12_ringNext_51 : decode cX12_ringNext 51 = .ok (.ireturn, 1) := by decide +kernel
set_option maxRecDepth 20000 in
set_option maxRecDepth 100000 in
theorem ggX12_pack_X12_counts : GoodIn wsX12_pack wsX12_counts := goodIn_r _ [10, 11, 12, 13, 14, 9, 15, 16, 17, 18, 19, 20, 21, 22, 23, 24, 25, 26, 39, 40, 41, 42, 43, 44, 45, 46, 47, 48, 49, 50, 51, 52, 53, 54, 55, 56] rfl (by decide +kernel)
set_option maxRecDepth 20000 in
theorem gX12_pack_X12_counts : GoodIn wsX12_pack (wsV RX12 109 RX12 yX12_counts wsX12_counts) := goodIn_app (goodIn_of _ (by decide +kernel)) ggX12_pack_X12_counts
set_option maxRecDepth 20000 in
set_option maxRecDepth 100000 in
theorem ggX12_pack_X12_peckOf : GoodIn wsX12_pack wsX12_peckOf := goodIn_r _ [30, 11, 39, 40, 41, 42, 43, 44, 45, 46, 47, 48, 49, 50, 51, 52, 53, 54, 55, 56] rfl (by decide +kernel)
set_option maxRecDepth 20000 in
theorem gX12_pack_X12_peckOf : GoodIn wsX12_pack (wsV RX12 105 RX12 yX12_peckOf wsX12_peckOf) := goodIn_app (goodIn_of _ (by decide +kernel)) ggX12_pack_X12_peckOf
set_option maxRecDepth 20000 in
set_option maxRecDepth 100000 in
theorem ggX12_pack_X12_ringNext : GoodIn wsX12_pack wsX12_ringNext := goodIn_r _ [34, 4, 16, 17, 18, 9, 19, 11, 35, 36, 37, 38, 1, 39, 40, 41, 42, 43, 44, 45, 46, 47, 48, 49, 50, 51, 52, 53, 54, 55, 56] rfl (by decide +kernel)
set_option maxRecDepth 20000 in
theorem gX12_pack_X12_ringNext : GoodIn wsX12_pack (wsV RX12 215 RX12 yX12_ringNext wsX12_ringNext) := goodIn_app (goodIn_of _ (by decide +kernel)) ggX12_pack_X12_ringNext
theorem dX12_pack_0 : decode cX12_pack 0 = .ok (.iconst 0, 1) := by decide +kernel
theorem dX12_pack_1 : decode cX12_pack 1 = .ok (.istore_n 1, 1) := by decide +kernel
theorem dX12_pack_2 : decode cX12_pack 2 = .ok (.iload_n 1, 1) := by decide +kernel
theorem dX12_pack_3 : decode cX12_pack 3 = .ok (.bipush 12, 2) := by decide +kernel
theorem dX12_pack_5 : decode cX12_pack 5 = .ok (.if_icmp .ge 60, 3) := by decide +kernel
theorem dX12_pack_8 : decode cX12_pack 8 = .ok (.iconst 0, 1) := by decide +kernel
theorem dX12_pack_9 : decode cX12_pack 9 = .ok (.istore_n 2, 1) := by decide +kernel
theorem dX12_pack_10 : decode cX12_pack 10 = .ok (.iload_n 2, 1) := by decide +kernel
theorem dX12_pack_11 : decode cX12_pack 11 = .ok (.bipush 12, 2) := by decide +kernel
theorem dX12_pack_13 : decode cX12_pack 13 = .ok (.if_icmp .ge 46, 3) := by decide +kernel
theorem dX12_pack_16 : decode cX12_pack 16 = .ok (.aload_n 0, 1) := by decide +kernel
theorem dX12_pack_17 : decode cX12_pack 17 = .ok (.getfield 40, 3) := by decide +kernel
theorem dX12_pack_20 : decode cX12_pack 20 = .ok (.bipush 12, 2) := by decide +kernel
theorem dX12_pack_22 : decode cX12_pack 22 = .ok (.iload_n 1, 1) := by decide +kernel
theorem dX12_pack_23 : decode cX12_pack 23 = .ok (.imul, 1) := by decide +kernel
theorem dX12_pack_24 : decode cX12_pack 24 = .ok (.iload_n 2, 1) := by decide +kernel
theorem dX12_pack_25 : decode cX12_pack 25 = .ok (.iadd, 1) := by decide +kernel
theorem dX12_pack_26 : decode cX12_pack 26 = .ok (.aload_n 0, 1) := by decide +kernel
theorem dX12_pack_27 : decode cX12_pack 27 = .ok (.iload_n 1, 1) := by decide +kernel
theorem dX12_pack_28 : decode cX12_pack 28 = .ok (.invokevirtual 109, 3) := by decide +kernel
theorem dX12_pack_31 : decode cX12_pack 31 = .ok (.ifCond .eq 20, 3) := by decide +kernel
theorem dX12_pack_34 : decode cX12_pack 34 = .ok (.aload_n 0, 1) := by decide +kernel
theorem dX12_pack_35 : decode cX12_pack 35 = .ok (.iload_n 2, 1) := by decide +kernel
theorem dX12_pack_36 : decode cX12_pack 36 = .ok (.invokevirtual 109, 3) := by decide +kernel
theorem dX12_pack_39 : decode cX12_pack 39 = .ok (.ifCond .eq 12, 3) := by decide +kernel
theorem dX12_pack_42 : decode cX12_pack 42 = .ok (.aload_n 0, 1) := by decide +kernel
theorem dX12_pack_43 : decode cX12_pack 43 = .ok (.iload_n 1, 1) := by decide +kernel
theorem dX12_pack_44 : decode cX12_pack 44 = .ok (.iload_n 2, 1) := by decide +kernel
theorem dX12_pack_45 : decode cX12_pack 45 = .ok (.invokevirtual 105, 3) := by decide +kernel
theorem dX12_pack_48 : decode cX12_pack 48 = .ok (.goto 4, 3) := by decide +kernel
theorem dX12_pack_51 : decode cX12_pack 51 = .ok (.iconst 0, 1) := by decide +kernel
theorem dX12_pack_52 : decode cX12_pack 52 = .ok (.iastore, 1) := by decide +kernel
theorem dX12_pack_53 : decode cX12_pack 53 = .ok (.iinc 2 1, 3) := by decide +kernel
theorem dX12_pack_56 : decode cX12_pack 56 = .ok (.goto (-46), 3) := by decide +kernel
theorem dX12_pack_59 : decode cX12_pack 59 = .ok (.iinc 1 1, 3) := by decide +kernel
theorem dX12_pack_62 : decode cX12_pack 62 = .ok (.goto (-60), 3) := by decide +kernel
theorem dX12_pack_65 : decode cX12_pack 65 = .ok (.aload_n 0, 1) := by decide +kernel
theorem dX12_pack_66 : decode cX12_pack 66 = .ok (.iconst 0, 1) := by decide +kernel
theorem dX12_pack_67 : decode cX12_pack 67 = .ok (.putfield 212, 3) := by decide +kernel
theorem dX12_pack_70 : decode cX12_pack 70 = .ok (.lconst 0, 1) := by decide +kernel
theorem dX12_pack_71 : decode cX12_pack 71 = .ok (.lstore_n 1, 1) := by decide +kernel
theorem dX12_pack_72 : decode cX12_pack 72 = .ok (.aload_n 0, 1) := by decide +kernel
theorem dX12_pack_73 : decode cX12_pack 73 = .ok (.invokevirtual 215, 3) := by decide +kernel
theorem dX12_pack_76 : decode cX12_pack 76 = .ok (.istore_n 3, 1) := by decide +kernel
theorem dX12_pack_77 : decode cX12_pack 77 = .ok (.iload_n 3, 1) := by decide +kernel
theorem dX12_pack_78 : decode cX12_pack 78 = .ok (.ifCond .le 196, 3) := by decide +kernel
theorem dX12_pack_81 : decode cX12_pack 81 = .ok (.ldc2_w 131, 3) := by decide +kernel
theorem dX12_pack_84 : decode cX12_pack 84 = .ok (.lstore 4, 2) := by decide +kernel
theorem dX12_pack_86 : decode cX12_pack 86 = .ok (.iconst 0, 1) := by decide +kernel
theorem dX12_pack_87 : decode cX12_pack 87 = .ok (.istore 6, 2) := by decide +kernel
theorem dX12_pack_89 : decode cX12_pack 89 = .ok (.iload 6, 2) := by decide +kernel
theorem dX12_pack_91 : decode cX12_pack 91 = .ok (.iload_n 3, 1) := by decide +kernel
theorem dX12_pack_92 : decode cX12_pack 92 = .ok (.if_icmp .ge 56, 3) := by decide +kernel
theorem dX12_pack_95 : decode cX12_pack 95 = .ok (.aload_n 0, 1) := by decide +kernel
theorem dX12_pack_96 : decode cX12_pack 96 = .ok (.getfield 40, 3) := by decide +kernel
theorem dX12_pack_99 : decode cX12_pack 99 = .ok (.bipush 12, 2) := by decide +kernel
theorem dX12_pack_101 : decode cX12_pack 101 = .ok (.aload_n 0, 1) := by decide +kernel
theorem dX12_pack_102 : decode cX12_pack 102 = .ok (.getfield 43, 3) := by decide +kernel
theorem dX12_pack_105 : decode cX12_pack 105 = .ok (.iload 6, 2) := by decide +kernel
theorem dX12_pack_107 : decode cX12_pack 107 = .ok (.iaload, 1) := by decide +kernel
theorem dX12_pack_108 : decode cX12_pack 108 = .ok (.imul, 1) := by decide +kernel
theorem dX12_pack_109 : decode cX12_pack 109 = .ok (.aload_n 0, 1) := by decide +kernel
theorem dX12_pack_110 : decode cX12_pack 110 = .ok (.getfield 43, 3) := by decide +kernel
theorem dX12_pack_113 : decode cX12_pack 113 = .ok (.iload 6, 2) := by decide +kernel
theorem dX12_pack_115 : decode cX12_pack 115 = .ok (.iconst 1, 1) := by decide +kernel
theorem dX12_pack_116 : decode cX12_pack 116 = .ok (.iadd, 1) := by decide +kernel
theorem dX12_pack_117 : decode cX12_pack 117 = .ok (.iload_n 3, 1) := by decide +kernel
theorem dX12_pack_118 : decode cX12_pack 118 = .ok (.irem, 1) := by decide +kernel
theorem dX12_pack_119 : decode cX12_pack 119 = .ok (.iaload, 1) := by decide +kernel
theorem dX12_pack_120 : decode cX12_pack 120 = .ok (.iadd, 1) := by decide +kernel
theorem dX12_pack_121 : decode cX12_pack 121 = .ok (.iaload, 1) := by decide +kernel
theorem dX12_pack_122 : decode cX12_pack 122 = .ok (.i2l, 1) := by decide +kernel
theorem dX12_pack_123 : decode cX12_pack 123 = .ok (.lstore 7, 2) := by decide +kernel
theorem dX12_pack_125 : decode cX12_pack 125 = .ok (.lload 7, 2) := by decide +kernel
theorem dX12_pack_127 : decode cX12_pack 127 = .ok (.lload 4, 2) := by decide +kernel
theorem dX12_pack_129 : decode cX12_pack 129 = .ok (.lcmp, 1) := by decide +kernel
theorem dX12_pack_130 : decode cX12_pack 130 = .ok (.ifCond .ge 8, 3) := by decide +kernel
theorem dX12_pack_133 : decode cX12_pack 133 = .ok (.lload 7, 2) := by decide +kernel
theorem dX12_pack_135 : decode cX12_pack 135 = .ok (.goto 5, 3) := by decide +kernel
theorem dX12_pack_138 : decode cX12_pack 138 = .ok (.lload 4, 2) := by decide +kernel
theorem dX12_pack_140 : decode cX12_pack 140 = .ok (.lstore 4, 2) := by decide +kernel
theorem dX12_pack_142 : decode cX12_pack 142 = .ok (.iinc 6 1, 3) := by decide +kernel
theorem dX12_pack_145 : decode cX12_pack 145 = .ok (.goto (-56), 3) := by decide +kernel
theorem dX12_pack_148 : decode cX12_pack 148 = .ok (.aload_n 0, 1) := by decide +kernel
theorem dX12_pack_149 : decode cX12_pack 149 = .ok (.getfield 46, 3) := by decide +kernel
theorem dX12_pack_152 : decode cX12_pack 152 = .ok (.bipush 14, 2) := by decide +kernel
theorem dX12_pack_154 : decode cX12_pack 154 = .ok (.aload_n 0, 1) := by decide +kernel
theorem dX12_pack_155 : decode cX12_pack 155 = .ok (.getfield 212, 3) := by decide +kernel
theorem dX12_pack_158 : decode cX12_pack 158 = .ok (.imul, 1) := by decide +kernel
theorem dX12_pack_159 : decode cX12_pack 159 = .ok (.lload 4, 2) := by decide +kernel
theorem dX12_pack_161 : decode cX12_pack 161 = .ok (.lastore, 1) := by decide +kernel
theorem dX12_pack_162 : decode cX12_pack 162 = .ok (.aload_n 0, 1) := by decide +kernel
theorem dX12_pack_163 : decode cX12_pack 163 = .ok (.getfield 46, 3) := by decide +kernel
theorem dX12_pack_166 : decode cX12_pack 166 = .ok (.bipush 14, 2) := by decide +kernel
theorem dX12_pack_168 : decode cX12_pack 168 = .ok (.aload_n 0, 1) := by decide +kernel
theorem dX12_pack_169 : decode cX12_pack 169 = .ok (.getfield 212, 3) := by decide +kernel
theorem dX12_pack_172 : decode cX12_pack 172 = .ok (.imul, 1) := by decide +kernel
theorem dX12_pack_173 : decode cX12_pack 173 = .ok (.iconst 1, 1) := by decide +kernel
theorem dX12_pack_174 : decode cX12_pack 174 = .ok (.iadd, 1) := by decide +kernel
theorem dX12_pack_175 : decode cX12_pack 175 = .ok (.iload_n 3, 1) := by decide +kernel
theorem dX12_pack_176 : decode cX12_pack 176 = .ok (.i2l, 1) := by decide +kernel
theorem dX12_pack_177 : decode cX12_pack 177 = .ok (.lastore, 1) := by decide +kernel
theorem dX12_pack_178 : decode cX12_pack 178 = .ok (.iconst 0, 1) := by decide +kernel
theorem dX12_pack_179 : decode cX12_pack 179 = .ok (.istore 6, 2) := by decide +kernel
theorem dX12_pack_181 : decode cX12_pack 181 = .ok (.iload 6, 2) := by decide +kernel
theorem dX12_pack_183 : decode cX12_pack 183 = .ok (.iload_n 3, 1) := by decide +kernel
theorem dX12_pack_184 : decode cX12_pack 184 = .ok (.if_icmp .ge 67, 3) := by decide +kernel
theorem dX12_pack_187 : decode cX12_pack 187 = .ok (.aload_n 0, 1) := by decide +kernel
theorem dX12_pack_188 : decode cX12_pack 188 = .ok (.getfield 46, 3) := by decide +kernel
theorem dX12_pack_191 : decode cX12_pack 191 = .ok (.bipush 14, 2) := by decide +kernel
theorem dX12_pack_193 : decode cX12_pack 193 = .ok (.aload_n 0, 1) := by decide +kernel
theorem dX12_pack_194 : decode cX12_pack 194 = .ok (.getfield 212, 3) := by decide +kernel
theorem dX12_pack_197 : decode cX12_pack 197 = .ok (.imul, 1) := by decide +kernel
theorem dX12_pack_198 : decode cX12_pack 198 = .ok (.iconst 2, 1) := by decide +kernel
theorem dX12_pack_199 : decode cX12_pack 199 = .ok (.iadd, 1) := by decide +kernel
theorem dX12_pack_200 : decode cX12_pack 200 = .ok (.iload 6, 2) := by decide +kernel
theorem dX12_pack_202 : decode cX12_pack 202 = .ok (.iadd, 1) := by decide +kernel
theorem dX12_pack_203 : decode cX12_pack 203 = .ok (.aload_n 0, 1) := by decide +kernel
theorem dX12_pack_204 : decode cX12_pack 204 = .ok (.getfield 43, 3) := by decide +kernel
theorem dX12_pack_207 : decode cX12_pack 207 = .ok (.iload 6, 2) := by decide +kernel
theorem dX12_pack_209 : decode cX12_pack 209 = .ok (.iaload, 1) := by decide +kernel
theorem dX12_pack_210 : decode cX12_pack 210 = .ok (.i2l, 1) := by decide +kernel
theorem dX12_pack_211 : decode cX12_pack 211 = .ok (.lastore, 1) := by decide +kernel
theorem dX12_pack_212 : decode cX12_pack 212 = .ok (.aload_n 0, 1) := by decide +kernel
theorem dX12_pack_213 : decode cX12_pack 213 = .ok (.getfield 40, 3) := by decide +kernel
theorem dX12_pack_216 : decode cX12_pack 216 = .ok (.bipush 12, 2) := by decide +kernel
theorem dX12_pack_218 : decode cX12_pack 218 = .ok (.aload_n 0, 1) := by decide +kernel
theorem dX12_pack_219 : decode cX12_pack 219 = .ok (.getfield 43, 3) := by decide +kernel
theorem dX12_pack_222 : decode cX12_pack 222 = .ok (.iload 6, 2) := by decide +kernel
theorem dX12_pack_224 : decode cX12_pack 224 = .ok (.iaload, 1) := by decide +kernel
theorem dX12_pack_225 : decode cX12_pack 225 = .ok (.imul, 1) := by decide +kernel
theorem dX12_pack_226 : decode cX12_pack 226 = .ok (.aload_n 0, 1) := by decide +kernel
theorem dX12_pack_227 : decode cX12_pack 227 = .ok (.getfield 43, 3) := by decide +kernel
theorem dX12_pack_230 : decode cX12_pack 230 = .ok (.iload 6, 2) := by decide +kernel
theorem dX12_pack_232 : decode cX12_pack 232 = .ok (.iconst 1, 1) := by decide +kernel
theorem dX12_pack_233 : decode cX12_pack 233 = .ok (.iadd, 1) := by decide +kernel
theorem dX12_pack_234 : decode cX12_pack 234 = .ok (.iload_n 3, 1) := by decide +kernel
theorem dX12_pack_235 : decode cX12_pack 235 = .ok (.irem, 1) := by decide +kernel
theorem dX12_pack_236 : decode cX12_pack 236 = .ok (.iaload, 1) := by decide +kernel
theorem dX12_pack_237 : decode cX12_pack 237 = .ok (.iadd, 1) := by decide +kernel
theorem dX12_pack_238 : decode cX12_pack 238 = .ok (.dup2, 1) := by decide +kernel
theorem dX12_pack_239 : decode cX12_pack 239 = .ok (.iaload, 1) := by decide +kernel
theorem dX12_pack_240 : decode cX12_pack 240 = .ok (.lload 4, 2) := by decide +kernel
theorem dX12_pack_242 : decode cX12_pack 242 = .ok (.l2i, 1) := by decide +kernel
theorem dX12_pack_243 : decode cX12_pack 243 = .ok (.isub, 1) := by decide +kernel
theorem dX12_pack_244 : decode cX12_pack 244 = .ok (.iastore, 1) := by decide +kernel
theorem dX12_pack_245 : decode cX12_pack 245 = .ok (.iinc 6 1, 3) := by decide +kernel
theorem dX12_pack_248 : decode cX12_pack 248 = .ok (.goto (-67), 3) := by decide +kernel
theorem dX12_pack_251 : decode cX12_pack 251 = .ok (.aload_n 0, 1) := by decide +kernel
theorem dX12_pack_252 : decode cX12_pack 252 = .ok (.dup, 1) := by decide +kernel
theorem dX12_pack_253 : decode cX12_pack 253 = .ok (.getfield 212, 3) := by decide +kernel
theorem dX12_pack_256 : decode cX12_pack 256 = .ok (.iconst 1, 1) := by decide +kernel
theorem dX12_pack_257 : decode cX12_pack 257 = .ok (.iadd, 1) := by decide +kernel
theorem dX12_pack_258 : decode cX12_pack 258 = .ok (.putfield 212, 3) := by decide +kernel
theorem dX12_pack_261 : decode cX12_pack 261 = .ok (.lload_n 1, 1) := by decide +kernel
theorem dX12_pack_262 : decode cX12_pack 262 = .ok (.lload 4, 2) := by decide +kernel
theorem dX12_pack_264 : decode cX12_pack 264 = .ok (.ladd, 1) := by decide +kernel
theorem dX12_pack_265 : decode cX12_pack 265 = .ok (.lstore_n 1, 1) := by decide +kernel
theorem dX12_pack_266 : decode cX12_pack 266 = .ok (.aload_n 0, 1) := by decide +kernel
theorem dX12_pack_267 : decode cX12_pack 267 = .ok (.invokevirtual 215, 3) := by decide +kernel
theorem dX12_pack_270 : decode cX12_pack 270 = .ok (.istore_n 3, 1) := by decide +kernel
theorem dX12_pack_271 : decode cX12_pack 271 = .ok (.goto (-194), 3) := by decide +kernel
theorem dX12_pack_274 : decode cX12_pack 274 = .ok (.lload_n 1, 1) := by decide +kernel
theorem dX12_pack_275 : decode cX12_pack 275 = .ok (.lreturn, 1) := by decide +kernel
theorem dX12_ring_0 : decode cX12_ring 0 = .ok (.iload_n 1, 1) := by decide +kernel
theorem dX12_ring_1 : decode cX12_ring 1 = .ok (.ifCond .lt 7, 3) := by decide +kernel
theorem dX12_ring_4 : decode cX12_ring 4 = .ok (.iload_n 2, 1) := by decide +kernel
theorem dX12_ring_5 : decode cX12_ring 5 = .ok (.ifCond .ge 7, 3) := by decide +kernel
theorem dX12_ring_8 : decode cX12_ring 8 = .ok (.ldc2_w 72, 3) := by decide +kernel
theorem dX12_ring_11 : decode cX12_ring 11 = .ok (.lreturn, 1) := by decide +kernel
theorem dX12_ring_12 : decode cX12_ring 12 = .ok (.iload_n 1, 1) := by decide +kernel
theorem dX12_ring_13 : decode cX12_ring 13 = .ok (.aload_n 0, 1) := by decide +kernel
theorem dX12_ring_14 : decode cX12_ring 14 = .ok (.getfield 212, 3) := by decide +kernel
theorem dX12_ring_17 : decode cX12_ring 17 = .ok (.if_icmp .lt 7, 3) := by decide +kernel
theorem dX12_ring_20 : decode cX12_ring 20 = .ok (.ldc2_w 112, 3) := by decide +kernel
theorem dX12_ring_23 : decode cX12_ring 23 = .ok (.lreturn, 1) := by decide +kernel
theorem dX12_ring_24 : decode cX12_ring 24 = .ok (.iload_n 2, 1) := by decide +kernel
theorem dX12_ring_25 : decode cX12_ring 25 = .ok (.i2l, 1) := by decide +kernel
theorem dX12_ring_26 : decode cX12_ring 26 = .ok (.ldc2_w 163, 3) := by decide +kernel
theorem dX12_ring_29 : decode cX12_ring 29 = .ok (.aload_n 0, 1) := by decide +kernel
theorem dX12_ring_30 : decode cX12_ring 30 = .ok (.getfield 46, 3) := by decide +kernel
theorem dX12_ring_33 : decode cX12_ring 33 = .ok (.bipush 14, 2) := by decide +kernel
theorem dX12_ring_35 : decode cX12_ring 35 = .ok (.iload_n 1, 1) := by decide +kernel
theorem dX12_ring_36 : decode cX12_ring 36 = .ok (.imul, 1) := by decide +kernel
theorem dX12_ring_37 : decode cX12_ring 37 = .ok (.iconst 1, 1) := by decide +kernel
theorem dX12_ring_38 : decode cX12_ring 38 = .ok (.iadd, 1) := by decide +kernel
theorem dX12_ring_39 : decode cX12_ring 39 = .ok (.laload, 1) := by decide +kernel
theorem dX12_ring_40 : decode cX12_ring 40 = .ok (.ladd, 1) := by decide +kernel
theorem dX12_ring_41 : decode cX12_ring 41 = .ok (.lcmp, 1) := by decide +kernel
theorem dX12_ring_42 : decode cX12_ring 42 = .ok (.ifCond .ge 17, 3) := by decide +kernel
theorem dX12_ring_45 : decode cX12_ring 45 = .ok (.aload_n 0, 1) := by decide +kernel
theorem dX12_ring_46 : decode cX12_ring 46 = .ok (.getfield 46, 3) := by decide +kernel
theorem dX12_ring_49 : decode cX12_ring 49 = .ok (.bipush 14, 2) := by decide +kernel
theorem dX12_ring_51 : decode cX12_ring 51 = .ok (.iload_n 1, 1) := by decide +kernel
theorem dX12_ring_52 : decode cX12_ring 52 = .ok (.imul, 1) := by decide +kernel
theorem dX12_ring_53 : decode cX12_ring 53 = .ok (.iload_n 2, 1) := by decide +kernel
theorem dX12_ring_54 : decode cX12_ring 54 = .ok (.iadd, 1) := by decide +kernel
theorem dX12_ring_55 : decode cX12_ring 55 = .ok (.laload, 1) := by decide +kernel
theorem dX12_ring_56 : decode cX12_ring 56 = .ok (.goto 6, 3) := by decide +kernel
theorem dX12_ring_59 : decode cX12_ring 59 = .ok (.ldc2_w 112, 3) := by decide +kernel
theorem dX12_ring_62 : decode cX12_ring 62 = .ok (.lreturn, 1) := by decide +kernel
set_option maxRecDepth 20000 in
set_option maxRecDepth 100000 in
theorem ggX12_count_X12_hens : GoodIn wsX12_count wsX12_hens := goodIn_r _ [9, 10, 34, 35, 36, 37, 38, 39, 40, 41, 42, 43, 44, 45, 46, 47, 48, 49, 50, 51] rfl (by decide +kernel)
set_option maxRecDepth 20000 in
theorem gX12_count_X12_hens : GoodIn wsX12_count (wsV RX12 53 RX12 yX12_hens wsX12_hens) := goodIn_app (goodIn_of _ (by decide +kernel)) ggX12_count_X12_hens
set_option maxRecDepth 20000 in
set_option maxRecDepth 100000 in
theorem ggX12_count_X12_counts : GoodIn wsX12_count wsX12_counts := goodIn_r _ [14, 10, 15, 16, 17, 8, 18, 5, 6, 7, 9, 19, 20, 21, 22, 23, 24, 25, 34, 35, 36, 37, 38, 39, 40, 41, 42, 43, 44, 45, 46, 47, 48, 49, 50, 51] rfl (by decide +kernel)
set_option maxRecDepth 20000 in
theorem gX12_count_X12_counts : GoodIn wsX12_count (wsV RX12 109 RX12 yX12_counts wsX12_counts) := goodIn_app (goodIn_of _ (by decide +kernel)) ggX12_count_X12_counts
set_option maxRecDepth 20000 in
set_option maxRecDepth 100000 in
theorem ggX12_count_X12_peckOf : GoodIn wsX12_count wsX12_peckOf := goodIn_r _ [29, 10, 34, 35, 36, 37, 38, 39, 40, 41, 42, 43, 44, 45, 46, 47, 48, 49, 50, 51] rfl (by decide +kernel)
set_option maxRecDepth 20000 in
theorem gX12_count_X12_peckOf : GoodIn wsX12_count (wsV RX12 105 RX12 yX12_peckOf wsX12_peckOf) := goodIn_app (goodIn_of _ (by decide +kernel)) ggX12_count_X12_peckOf
set_option maxRecDepth 20000 in
set_option maxRecDepth 100000 in
theorem ggX12_count_X12_width : GoodIn wsX12_count wsX12_width := goodIn_r _ [33, 10, 34, 35, 36, 37, 38, 39, 40, 41, 42, 43, 44, 45, 46, 47, 48, 49, 50, 51] rfl (by decide +kernel)
set_option maxRecDepth 20000 in
theorem gX12_count_X12_width : GoodIn wsX12_count (wsV RX12 96 RX12 yX12_width wsX12_width) := goodIn_app (goodIn_of _ (by decide +kernel)) ggX12_count_X12_width
theorem dX12_count_0 : decode cX12_count 0 = .ok (.lconst 0, 1) := by decide +kernel
theorem dX12_count_1 : decode cX12_count 1 = .ok (.lstore_n 2, 1) := by decide +kernel
theorem dX12_count_2 : decode cX12_count 2 = .ok (.iload_n 1, 1) := by decide +kernel
theorem dX12_count_3 : decode cX12_count 3 = .ok (.tableswitch 204 0 6 #[41, 47, 84, 90, 96, 102, 167], 41) := by decide +kernel
theorem dX12_count_44 : decode cX12_count 44 = .ok (.aload_n 0, 1) := by decide +kernel
theorem dX12_count_45 : decode cX12_count 45 = .ok (.invokevirtual 53, 3) := by decide +kernel
theorem dX12_count_48 : decode cX12_count 48 = .ok (.i2l, 1) := by decide +kernel
theorem dX12_count_49 : decode cX12_count 49 = .ok (.lreturn, 1) := by decide +kernel
theorem dX12_count_50 : decode cX12_count 50 = .ok (.iconst 0, 1) := by decide +kernel
theorem dX12_count_51 : decode cX12_count 51 = .ok (.istore 4, 2) := by decide +kernel
theorem dX12_count_53 : decode cX12_count 53 = .ok (.iload 4, 2) := by decide +kernel
theorem dX12_count_55 : decode cX12_count 55 = .ok (.aload_n 0, 1) := by decide +kernel
theorem dX12_count_56 : decode cX12_count 56 = .ok (.invokevirtual 53, 3) := by decide +kernel
theorem dX12_count_59 : decode cX12_count 59 = .ok (.if_icmp .ge 26, 3) := by decide +kernel
theorem dX12_count_62 : decode cX12_count 62 = .ok (.lload_n 2, 1) := by decide +kernel
theorem dX12_count_63 : decode cX12_count 63 = .ok (.aload_n 0, 1) := by decide +kernel
theorem dX12_count_64 : decode cX12_count 64 = .ok (.iload 4, 2) := by decide +kernel
theorem dX12_count_66 : decode cX12_count 66 = .ok (.invokevirtual 109, 3) := by decide +kernel
theorem dX12_count_69 : decode cX12_count 69 = .ok (.ifCond .eq 7, 3) := by decide +kernel
theorem dX12_count_72 : decode cX12_count 72 = .ok (.lconst 1, 1) := by decide +kernel
theorem dX12_count_73 : decode cX12_count 73 = .ok (.goto 4, 3) := by decide +kernel
theorem dX12_count_76 : decode cX12_count 76 = .ok (.lconst 0, 1) := by decide +kernel
theorem dX12_count_77 : decode cX12_count 77 = .ok (.ladd, 1) := by decide +kernel
theorem dX12_count_78 : decode cX12_count 78 = .ok (.lstore_n 2, 1) := by decide +kernel
theorem dX12_count_79 : decode cX12_count 79 = .ok (.iinc 4 1, 3) := by decide +kernel
theorem dX12_count_82 : decode cX12_count 82 = .ok (.goto (-29), 3) := by decide +kernel
theorem dX12_count_85 : decode cX12_count 85 = .ok (.lload_n 2, 1) := by decide +kernel
theorem dX12_count_86 : decode cX12_count 86 = .ok (.lreturn, 1) := by decide +kernel
theorem dX12_count_87 : decode cX12_count 87 = .ok (.aload_n 0, 1) := by decide +kernel
theorem dX12_count_88 : decode cX12_count 88 = .ok (.getfield 153, 3) := by decide +kernel
theorem dX12_count_91 : decode cX12_count 91 = .ok (.i2l, 1) := by decide +kernel
theorem dX12_count_92 : decode cX12_count 92 = .ok (.lreturn, 1) := by decide +kernel
theorem dX12_count_93 : decode cX12_count 93 = .ok (.aload_n 0, 1) := by decide +kernel
theorem dX12_count_94 : decode cX12_count 94 = .ok (.getfield 49, 3) := by decide +kernel
theorem dX12_count_97 : decode cX12_count 97 = .ok (.i2l, 1) := by decide +kernel
theorem dX12_count_98 : decode cX12_count 98 = .ok (.lreturn, 1) := by decide +kernel
theorem dX12_count_99 : decode cX12_count 99 = .ok (.aload_n 0, 1) := by decide +kernel
theorem dX12_count_100 : decode cX12_count 100 = .ok (.getfield 212, 3) := by decide +kernel
theorem dX12_count_103 : decode cX12_count 103 = .ok (.i2l, 1) := by decide +kernel
theorem dX12_count_104 : decode cX12_count 104 = .ok (.lreturn, 1) := by decide +kernel
theorem dX12_count_105 : decode cX12_count 105 = .ok (.iconst 0, 1) := by decide +kernel
theorem dX12_count_106 : decode cX12_count 106 = .ok (.istore 4, 2) := by decide +kernel
theorem dX12_count_108 : decode cX12_count 108 = .ok (.iload 4, 2) := by decide +kernel
theorem dX12_count_110 : decode cX12_count 110 = .ok (.sipush 144, 3) := by decide +kernel
theorem dX12_count_113 : decode cX12_count 113 = .ok (.if_icmp .ge 55, 3) := by decide +kernel
theorem dX12_count_116 : decode cX12_count 116 = .ok (.lload_n 2, 1) := by decide +kernel
theorem dX12_count_117 : decode cX12_count 117 = .ok (.aload_n 0, 1) := by decide +kernel
theorem dX12_count_118 : decode cX12_count 118 = .ok (.iload 4, 2) := by decide +kernel
theorem dX12_count_120 : decode cX12_count 120 = .ok (.bipush 12, 2) := by decide +kernel
theorem dX12_count_122 : decode cX12_count 122 = .ok (.idiv, 1) := by decide +kernel
theorem dX12_count_123 : decode cX12_count 123 = .ok (.invokevirtual 109, 3) := by decide +kernel
theorem dX12_count_126 : decode cX12_count 126 = .ok (.ifCond .eq 33, 3) := by decide +kernel
theorem dX12_count_129 : decode cX12_count 129 = .ok (.aload_n 0, 1) := by decide +kernel
theorem dX12_count_130 : decode cX12_count 130 = .ok (.iload 4, 2) := by decide +kernel
theorem dX12_count_132 : decode cX12_count 132 = .ok (.bipush 12, 2) := by decide +kernel
theorem dX12_count_134 : decode cX12_count 134 = .ok (.irem, 1) := by decide +kernel
theorem dX12_count_135 : decode cX12_count 135 = .ok (.invokevirtual 109, 3) := by decide +kernel
theorem dX12_count_138 : decode cX12_count 138 = .ok (.ifCond .eq 21, 3) := by decide +kernel
theorem dX12_count_141 : decode cX12_count 141 = .ok (.aload_n 0, 1) := by decide +kernel
theorem dX12_count_142 : decode cX12_count 142 = .ok (.iload 4, 2) := by decide +kernel
theorem dX12_count_144 : decode cX12_count 144 = .ok (.bipush 12, 2) := by decide +kernel
theorem dX12_count_146 : decode cX12_count 146 = .ok (.idiv, 1) := by decide +kernel
theorem dX12_count_147 : decode cX12_count 147 = .ok (.iload 4, 2) := by decide +kernel
theorem dX12_count_149 : decode cX12_count 149 = .ok (.bipush 12, 2) := by decide +kernel
theorem dX12_count_151 : decode cX12_count 151 = .ok (.irem, 1) := by decide +kernel
theorem dX12_count_152 : decode cX12_count 152 = .ok (.invokevirtual 105, 3) := by decide +kernel
theorem dX12_count_155 : decode cX12_count 155 = .ok (.i2l, 1) := by decide +kernel
theorem dX12_count_156 : decode cX12_count 156 = .ok (.goto 4, 3) := by decide +kernel
theorem dX12_count_159 : decode cX12_count 159 = .ok (.lconst 0, 1) := by decide +kernel
theorem dX12_count_160 : decode cX12_count 160 = .ok (.ladd, 1) := by decide +kernel
theorem dX12_count_161 : decode cX12_count 161 = .ok (.lstore_n 2, 1) := by decide +kernel
theorem dX12_count_162 : decode cX12_count 162 = .ok (.iinc 4 1, 3) := by decide +kernel
theorem dX12_count_165 : decode cX12_count 165 = .ok (.goto (-57), 3) := by decide +kernel
theorem dX12_count_168 : decode cX12_count 168 = .ok (.lload_n 2, 1) := by decide +kernel
theorem dX12_count_169 : decode cX12_count 169 = .ok (.lreturn, 1) := by decide +kernel
theorem dX12_count_170 : decode cX12_count 170 = .ok (.iconst 0, 1) := by decide +kernel
theorem dX12_count_171 : decode cX12_count 171 = .ok (.istore 4, 2) := by decide +kernel
theorem dX12_count_173 : decode cX12_count 173 = .ok (.iload 4, 2) := by decide +kernel
theorem dX12_count_175 : decode cX12_count 175 = .ok (.aload_n 0, 1) := by decide +kernel
theorem dX12_count_176 : decode cX12_count 176 = .ok (.invokevirtual 53, 3) := by decide +kernel
theorem dX12_count_179 : decode cX12_count 179 = .ok (.if_icmp .ge 26, 3) := by decide +kernel
theorem dX12_count_182 : decode cX12_count 182 = .ok (.lload_n 2, 1) := by decide +kernel
theorem dX12_count_183 : decode cX12_count 183 = .ok (.aload_n 0, 1) := by decide +kernel
theorem dX12_count_184 : decode cX12_count 184 = .ok (.iload 4, 2) := by decide +kernel
theorem dX12_count_186 : decode cX12_count 186 = .ok (.invokevirtual 96, 3) := by decide +kernel
theorem dX12_count_189 : decode cX12_count 189 = .ok (.ifCond .lt 7, 3) := by decide +kernel
theorem dX12_count_192 : decode cX12_count 192 = .ok (.lconst 1, 1) := by decide +kernel
theorem dX12_count_193 : decode cX12_count 193 = .ok (.goto 4, 3) := by decide +kernel
theorem dX12_count_196 : decode cX12_count 196 = .ok (.lconst 0, 1) := by decide +kernel
theorem dX12_count_197 : decode cX12_count 197 = .ok (.ladd, 1) := by decide +kernel
theorem dX12_count_198 : decode cX12_count 198 = .ok (.lstore_n 2, 1) := by decide +kernel
theorem dX12_count_199 : decode cX12_count 199 = .ok (.iinc 4 1, 3) := by decide +kernel
theorem dX12_count_202 : decode cX12_count 202 = .ok (.goto (-29), 3) := by decide +kernel
theorem dX12_count_205 : decode cX12_count 205 = .ok (.lload_n 2, 1) := by decide +kernel
theorem dX12_count_206 : decode cX12_count 206 = .ok (.lreturn, 1) := by decide +kernel
theorem dX12_count_207 : decode cX12_count 207 = .ok (.ldc2_w 72, 3) := by decide +kernel
theorem dX12_count_210 : decode cX12_count 210 = .ok (.lreturn, 1) := by decide +kernel
theorem dJ6_bitCount_0f7a4_0 : decode cJ6_bitCount_0f7a4 0 = .ok (.iload_n 0, 1) := by decide +kernel
theorem dJ6_bitCount_0f7a4_1 : decode cJ6_bitCount_0f7a4 1 = .ok (.iload_n 0, 1) := by decide +kernel
theorem dJ6_bitCount_0f7a4_2 : decode cJ6_bitCount_0f7a4 2 = .ok (.iconst 1, 1) := by decide +kernel
theorem dJ6_bitCount_0f7a4_3 : decode cJ6_bitCount_0f7a4 3 = .ok (.iushr, 1) := by decide +kernel
theorem dJ6_bitCount_0f7a4_4 : decode cJ6_bitCount_0f7a4 4 = .ok (.ldc_w 265, 3) := by decide +kernel
theorem dJ6_bitCount_0f7a4_7 : decode cJ6_bitCount_0f7a4 7 = .ok (.iand, 1) := by decide +kernel
theorem dJ6_bitCount_0f7a4_8 : decode cJ6_bitCount_0f7a4 8 = .ok (.isub, 1) := by decide +kernel
theorem dJ6_bitCount_0f7a4_9 : decode cJ6_bitCount_0f7a4 9 = .ok (.istore_n 0, 1) := by decide +kernel
theorem dJ6_bitCount_0f7a4_10 : decode cJ6_bitCount_0f7a4 10 = .ok (.iload_n 0, 1) := by decide +kernel
theorem dJ6_bitCount_0f7a4_11 : decode cJ6_bitCount_0f7a4 11 = .ok (.ldc_w 266, 3) := by decide +kernel
theorem dJ6_bitCount_0f7a4_14 : decode cJ6_bitCount_0f7a4 14 = .ok (.iand, 1) := by decide +kernel
theorem dJ6_bitCount_0f7a4_15 : decode cJ6_bitCount_0f7a4 15 = .ok (.iload_n 0, 1) := by decide +kernel
theorem dJ6_bitCount_0f7a4_16 : decode cJ6_bitCount_0f7a4 16 = .ok (.iconst 2, 1) := by decide +kernel
theorem dJ6_bitCount_0f7a4_17 : decode cJ6_bitCount_0f7a4 17 = .ok (.iushr, 1) := by decide +kernel
theorem dJ6_bitCount_0f7a4_18 : decode cJ6_bitCount_0f7a4 18 = .ok (.ldc_w 266, 3) := by decide +kernel
theorem dJ6_bitCount_0f7a4_21 : decode cJ6_bitCount_0f7a4 21 = .ok (.iand, 1) := by decide +kernel
theorem dJ6_bitCount_0f7a4_22 : decode cJ6_bitCount_0f7a4 22 = .ok (.iadd, 1) := by decide +kernel
theorem dJ6_bitCount_0f7a4_23 : decode cJ6_bitCount_0f7a4 23 = .ok (.istore_n 0, 1) := by decide +kernel
theorem dJ6_bitCount_0f7a4_24 : decode cJ6_bitCount_0f7a4 24 = .ok (.iload_n 0, 1) := by decide +kernel
theorem dJ6_bitCount_0f7a4_25 : decode cJ6_bitCount_0f7a4 25 = .ok (.iload_n 0, 1) := by decide +kernel
theorem dJ6_bitCount_0f7a4_26 : decode cJ6_bitCount_0f7a4 26 = .ok (.iconst 4, 1) := by decide +kernel
theorem dJ6_bitCount_0f7a4_27 : decode cJ6_bitCount_0f7a4 27 = .ok (.iushr, 1) := by decide +kernel
theorem dJ6_bitCount_0f7a4_28 : decode cJ6_bitCount_0f7a4 28 = .ok (.iadd, 1) := by decide +kernel
theorem dJ6_bitCount_0f7a4_29 : decode cJ6_bitCount_0f7a4 29 = .ok (.ldc_w 267, 3) := by decide +kernel
theorem dJ6_bitCount_0f7a4_32 : decode cJ6_bitCount_0f7a4 32 = .ok (.iand, 1) := by decide +kernel
theorem dJ6_bitCount_0f7a4_33 : decode cJ6_bitCount_0f7a4 33 = .ok (.istore_n 0, 1) := by decide +kernel
theorem dJ6_bitCount_0f7a4_34 : decode cJ6_bitCount_0f7a4 34 = .ok (.iload_n 0, 1) := by decide +kernel
theorem dJ6_bitCount_0f7a4_35 : decode cJ6_bitCount_0f7a4 35 = .ok (.iload_n 0, 1) := by decide +kernel
theorem dJ6_bitCount_0f7a4_36 : decode cJ6_bitCount_0f7a4 36 = .ok (.bipush 8, 2) := by decide +kernel
theorem dJ6_bitCount_0f7a4_38 : decode cJ6_bitCount_0f7a4 38 = .ok (.iushr, 1) := by decide +kernel
theorem dJ6_bitCount_0f7a4_39 : decode cJ6_bitCount_0f7a4 39 = .ok (.iadd, 1) := by decide +kernel
theorem dJ6_bitCount_0f7a4_40 : decode cJ6_bitCount_0f7a4 40 = .ok (.istore_n 0, 1) := by decide +kernel
theorem dJ6_bitCount_0f7a4_41 : decode cJ6_bitCount_0f7a4 41 = .ok (.iload_n 0, 1) := by decide +kernel
theorem dJ6_bitCount_0f7a4_42 : decode cJ6_bitCount_0f7a4 42 = .ok (.iload_n 0, 1) := by decide +kernel
theorem dJ6_bitCount_0f7a4_43 : decode cJ6_bitCount_0f7a4 43 = .ok (.bipush 16, 2) := by decide +kernel
theorem dJ6_bitCount_0f7a4_45 : decode cJ6_bitCount_0f7a4 45 = .ok (.iushr, 1) := by decide +kernel
theorem dJ6_bitCount_0f7a4_46 : decode cJ6_bitCount_0f7a4 46 = .ok (.iadd, 1) := by decide +kernel
theorem dJ6_bitCount_0f7a4_47 : decode cJ6_bitCount_0f7a4 47 = .ok (.istore_n 0, 1) := by decide +kernel
theorem dJ6_bitCount_0f7a4_48 : decode cJ6_bitCount_0f7a4 48 = .ok (.iload_n 0, 1) := by decide +kernel
theorem dJ6_bitCount_0f7a4_49 : decode cJ6_bitCount_0f7a4 49 = .ok (.bipush 63, 2) := by decide +kernel
theorem dJ6_bitCount_0f7a4_51 : decode cJ6_bitCount_0f7a4 51 = .ok (.iand, 1) := by decide +kernel
theorem dJ6_bitCount_0f7a4_52 : decode cJ6_bitCount_0f7a4 52 = .ok (.ireturn, 1) := by decide +kernel
theorem dJ9_max_7cf53_0 : decode cJ9_max_7cf53 0 = .ok (.iload_n 0, 1) := by decide +kernel
theorem dJ9_max_7cf53_1 : decode cJ9_max_7cf53 1 = .ok (.iload_n 1, 1) := by decide +kernel
theorem dJ9_max_7cf53_2 : decode cJ9_max_7cf53 2 = .ok (.if_icmp .lt 7, 3) := by decide +kernel
theorem dJ9_max_7cf53_5 : decode cJ9_max_7cf53 5 = .ok (.iload_n 0, 1) := by decide +kernel
theorem dJ9_max_7cf53_6 : decode cJ9_max_7cf53 6 = .ok (.goto 4, 3) := by decide +kernel
theorem dJ9_max_7cf53_9 : decode cJ9_max_7cf53 9 = .ok (.iload_n 1, 1) := by decide +kernel
theorem dJ9_max_7cf53_10 : decode cJ9_max_7cf53 10 = .ok (.ireturn, 1) := by decide +kernel
theorem dJ9_min_7cf53_0 : decode cJ9_min_7cf53 0 = .ok (.iload_n 0, 1) := by decide +kernel
theorem dJ9_min_7cf53_1 : decode cJ9_min_7cf53 1 = .ok (.iload_n 1, 1) := by decide +kernel
theorem dJ9_min_7cf53_2 : decode cJ9_min_7cf53 2 = .ok (.if_icmp .gt 7, 3) := by decide +kernel
theorem dJ9_min_7cf53_5 : decode cJ9_min_7cf53 5 = .ok (.iload_n 0, 1) := by decide +kernel
theorem dJ9_min_7cf53_6 : decode cJ9_min_7cf53 6 = .ok (.goto 4, 3) := by decide +kernel
theorem dJ9_min_7cf53_9 : decode cJ9_min_7cf53 9 = .ok (.iload_n 1, 1) := by decide +kernel
theorem dJ9_min_7cf53_10 : decode cJ9_min_7cf53 10 = .ok (.ireturn, 1) := by decide +kernel
theorem dJ7_fill_53178_0 : decode cJ7_fill_53178 0 = .ok (.iconst 0, 1) := by decide +kernel
theorem dJ7_fill_53178_1 : decode cJ7_fill_53178 1 = .ok (.istore_n 2, 1) := by decide +kernel
theorem dJ7_fill_53178_2 : decode cJ7_fill_53178 2 = .ok (.aload_n 0, 1) := by decide +kernel
theorem dJ7_fill_53178_3 : decode cJ7_fill_53178 3 = .ok (.arraylength, 1) := by decide +kernel
theorem dJ7_fill_53178_4 : decode cJ7_fill_53178 4 = .ok (.istore_n 3, 1) := by decide +kernel
theorem dJ7_fill_53178_5 : decode cJ7_fill_53178 5 = .ok (.iload_n 2, 1) := by decide +kernel
theorem dJ7_fill_53178_6 : decode cJ7_fill_53178 6 = .ok (.iload_n 3, 1) := by decide +kernel
theorem dJ7_fill_53178_7 : decode cJ7_fill_53178 7 = .ok (.if_icmp .ge 13, 3) := by decide +kernel
theorem dJ7_fill_53178_10 : decode cJ7_fill_53178 10 = .ok (.aload_n 0, 1) := by decide +kernel
theorem dJ7_fill_53178_11 : decode cJ7_fill_53178 11 = .ok (.iload_n 2, 1) := by decide +kernel
theorem dJ7_fill_53178_12 : decode cJ7_fill_53178 12 = .ok (.iload_n 1, 1) := by decide +kernel
theorem dJ7_fill_53178_13 : decode cJ7_fill_53178 13 = .ok (.iastore, 1) := by decide +kernel
theorem dJ7_fill_53178_14 : decode cJ7_fill_53178 14 = .ok (.iinc 2 1, 3) := by decide +kernel
theorem dJ7_fill_53178_17 : decode cJ7_fill_53178 17 = .ok (.goto (-12), 3) := by decide +kernel
theorem dJ7_fill_53178_20 : decode cJ7_fill_53178 20 = .ok (.return_, 1) := by decide +kernel
theorem dJ7_fill_031fb_0 : decode cJ7_fill_031fb 0 = .ok (.iconst 0, 1) := by decide +kernel
theorem dJ7_fill_031fb_1 : decode cJ7_fill_031fb 1 = .ok (.istore_n 2, 1) := by decide +kernel
theorem dJ7_fill_031fb_2 : decode cJ7_fill_031fb 2 = .ok (.aload_n 0, 1) := by decide +kernel
theorem dJ7_fill_031fb_3 : decode cJ7_fill_031fb 3 = .ok (.arraylength, 1) := by decide +kernel
theorem dJ7_fill_031fb_4 : decode cJ7_fill_031fb 4 = .ok (.istore_n 3, 1) := by decide +kernel
theorem dJ7_fill_031fb_5 : decode cJ7_fill_031fb 5 = .ok (.iload_n 2, 1) := by decide +kernel
theorem dJ7_fill_031fb_6 : decode cJ7_fill_031fb 6 = .ok (.iload_n 3, 1) := by decide +kernel
theorem dJ7_fill_031fb_7 : decode cJ7_fill_031fb 7 = .ok (.if_icmp .ge 13, 3) := by decide +kernel
theorem dJ7_fill_031fb_10 : decode cJ7_fill_031fb 10 = .ok (.aload_n 0, 1) := by decide +kernel
theorem dJ7_fill_031fb_11 : decode cJ7_fill_031fb 11 = .ok (.iload_n 2, 1) := by decide +kernel
theorem dJ7_fill_031fb_12 : decode cJ7_fill_031fb 12 = .ok (.iload_n 1, 1) := by decide +kernel
theorem dJ7_fill_031fb_13 : decode cJ7_fill_031fb 13 = .ok (.bastore, 1) := by decide +kernel
theorem dJ7_fill_031fb_14 : decode cJ7_fill_031fb 14 = .ok (.iinc 2 1, 3) := by decide +kernel
theorem dJ7_fill_031fb_17 : decode cJ7_fill_031fb 17 = .ok (.goto (-12), 3) := by decide +kernel
theorem dJ7_fill_031fb_20 : decode cJ7_fill_031fb 20 = .ok (.return_, 1) := by decide +kernel
theorem dL_law_0 : decode cL_law 0 = .ok (.new 7, 3) := by decide +kernel
theorem dL_law_3 : decode cL_law 3 = .ok (.dup, 1) := by decide +kernel
theorem dL_law_4 : decode cL_law 4 = .ok (.invokespecial 9, 3) := by decide +kernel
theorem dL_law_7 : decode cL_law 7 = .ok (.astore_n 1, 1) := by decide +kernel
theorem dL_law_8 : decode cL_law 8 = .ok (.new 10, 3) := by decide +kernel
theorem dL_law_11 : decode cL_law 11 = .ok (.dup, 1) := by decide +kernel
theorem dL_law_12 : decode cL_law 12 = .ok (.invokespecial 12, 3) := by decide +kernel
theorem dL_law_15 : decode cL_law 15 = .ok (.astore_n 2, 1) := by decide +kernel
theorem dL_law_16 : decode cL_law 16 = .ok (.iconst 0, 1) := by decide +kernel
theorem dL_law_17 : decode cL_law 17 = .ok (.istore_n 3, 1) := by decide +kernel
theorem dL_law_18 : decode cL_law 18 = .ok (.iload_n 3, 1) := by decide +kernel
theorem dL_law_19 : decode cL_law 19 = .ok (.aload_n 0, 1) := by decide +kernel
theorem dL_law_20 : decode cL_law 20 = .ok (.arraylength, 1) := by decide +kernel
theorem dL_law_21 : decode cL_law 21 = .ok (.iconst 5, 1) := by decide +kernel
theorem dL_law_22 : decode cL_law 22 = .ok (.isub, 1) := by decide +kernel
theorem dL_law_23 : decode cL_law 23 = .ok (.if_icmp .gt 902, 3) := by decide +kernel
theorem dL_law_26 : decode cL_law 26 = .ok (.aload_n 0, 1) := by decide +kernel
theorem dL_law_27 : decode cL_law 27 = .ok (.iload_n 3, 1) := by decide +kernel
theorem dL_law_28 : decode cL_law 28 = .ok (.iaload, 1) := by decide +kernel
theorem dL_law_29 : decode cL_law 29 = .ok (.bipush 31, 2) := by decide +kernel
theorem dL_law_31 : decode cL_law 31 = .ok (.iand, 1) := by decide +kernel
theorem dL_law_32 : decode cL_law 32 = .ok (.tableswitch 887 0 29 #[136, 169, 202, 235, 268, 341, 364, 397, 430, 463, 476, 489, 502, 555, 568, 601, 614, 627, 650, 673, 706, 719, 732, 755, 768, 781, 804, 817, 830, 863], 136) := by decide +kernel
theorem dL_law_168 : decode cL_law 168 = .ok (.aload_n 1, 1) := by decide +kernel
theorem dL_law_169 : decode cL_law 169 = .ok (.aload_n 0, 1) := by decide +kernel
theorem dL_law_170 : decode cL_law 170 = .ok (.iload_n 3, 1) := by decide +kernel
theorem dL_law_171 : decode cL_law 171 = .ok (.iconst 1, 1) := by decide +kernel
theorem dL_law_172 : decode cL_law 172 = .ok (.iadd, 1) := by decide +kernel
theorem dL_law_173 : decode cL_law 173 = .ok (.iaload, 1) := by decide +kernel
theorem dL_law_174 : decode cL_law 174 = .ok (.aload_n 0, 1) := by decide +kernel
theorem dL_law_175 : decode cL_law 175 = .ok (.iload_n 3, 1) := by decide +kernel
theorem dL_law_176 : decode cL_law 176 = .ok (.iconst 2, 1) := by decide +kernel
theorem dL_law_177 : decode cL_law 177 = .ok (.iadd, 1) := by decide +kernel
theorem dL_law_178 : decode cL_law 178 = .ok (.iaload, 1) := by decide +kernel
theorem dL_law_179 : decode cL_law 179 = .ok (.invokevirtual 13, 3) := by decide +kernel
theorem dL_law_182 : decode cL_law 182 = .ok (.pop2, 1) := by decide +kernel
theorem dL_law_183 : decode cL_law 183 = .ok (.aload_n 2, 1) := by decide +kernel
theorem dL_law_184 : decode cL_law 184 = .ok (.aload_n 0, 1) := by decide +kernel
theorem dL_law_185 : decode cL_law 185 = .ok (.iload_n 3, 1) := by decide +kernel
theorem dL_law_186 : decode cL_law 186 = .ok (.iconst 1, 1) := by decide +kernel
theorem dL_law_187 : decode cL_law 187 = .ok (.iadd, 1) := by decide +kernel
theorem dL_law_188 : decode cL_law 188 = .ok (.iaload, 1) := by decide +kernel
theorem dL_law_189 : decode cL_law 189 = .ok (.aload_n 0, 1) := by decide +kernel
theorem dL_law_190 : decode cL_law 190 = .ok (.iload_n 3, 1) := by decide +kernel
theorem dL_law_191 : decode cL_law 191 = .ok (.iconst 2, 1) := by decide +kernel
theorem dL_law_192 : decode cL_law 192 = .ok (.iadd, 1) := by decide +kernel
theorem dL_law_193 : decode cL_law 193 = .ok (.iaload, 1) := by decide +kernel
theorem dL_law_194 : decode cL_law 194 = .ok (.invokevirtual 17, 3) := by decide +kernel
theorem dL_law_197 : decode cL_law 197 = .ok (.pop2, 1) := by decide +kernel
theorem dL_law_198 : decode cL_law 198 = .ok (.goto 721, 3) := by decide +kernel
theorem dL_law_201 : decode cL_law 201 = .ok (.aload_n 1, 1) := by decide +kernel
theorem dL_law_202 : decode cL_law 202 = .ok (.aload_n 0, 1) := by decide +kernel
theorem dL_law_203 : decode cL_law 203 = .ok (.iload_n 3, 1) := by decide +kernel
theorem dL_law_204 : decode cL_law 204 = .ok (.iconst 1, 1) := by decide +kernel
theorem dL_law_205 : decode cL_law 205 = .ok (.iadd, 1) := by decide +kernel
theorem dL_law_206 : decode cL_law 206 = .ok (.iaload, 1) := by decide +kernel
theorem dL_law_207 : decode cL_law 207 = .ok (.aload_n 0, 1) := by decide +kernel
theorem dL_law_208 : decode cL_law 208 = .ok (.iload_n 3, 1) := by decide +kernel
theorem dL_law_209 : decode cL_law 209 = .ok (.iconst 2, 1) := by decide +kernel
theorem dL_law_210 : decode cL_law 210 = .ok (.iadd, 1) := by decide +kernel
theorem dL_law_211 : decode cL_law 211 = .ok (.iaload, 1) := by decide +kernel
theorem dL_law_212 : decode cL_law 212 = .ok (.invokevirtual 18, 3) := by decide +kernel
theorem dL_law_215 : decode cL_law 215 = .ok (.pop2, 1) := by decide +kernel
theorem dL_law_216 : decode cL_law 216 = .ok (.aload_n 2, 1) := by decide +kernel
theorem dL_law_217 : decode cL_law 217 = .ok (.aload_n 0, 1) := by decide +kernel
theorem dL_law_218 : decode cL_law 218 = .ok (.iload_n 3, 1) := by decide +kernel
theorem dL_law_219 : decode cL_law 219 = .ok (.iconst 1, 1) := by decide +kernel
theorem dL_law_220 : decode cL_law 220 = .ok (.iadd, 1) := by decide +kernel
theorem dL_law_221 : decode cL_law 221 = .ok (.iaload, 1) := by decide +kernel
theorem dL_law_222 : decode cL_law 222 = .ok (.aload_n 0, 1) := by decide +kernel
theorem dL_law_223 : decode cL_law 223 = .ok (.iload_n 3, 1) := by decide +kernel
theorem dL_law_224 : decode cL_law 224 = .ok (.iconst 2, 1) := by decide +kernel
theorem dL_law_225 : decode cL_law 225 = .ok (.iadd, 1) := by decide +kernel
theorem dL_law_226 : decode cL_law 226 = .ok (.iaload, 1) := by decide +kernel
theorem dL_law_227 : decode cL_law 227 = .ok (.invokevirtual 21, 3) := by decide +kernel
theorem dL_law_230 : decode cL_law 230 = .ok (.pop2, 1) := by decide +kernel
theorem dL_law_231 : decode cL_law 231 = .ok (.goto 688, 3) := by decide +kernel
theorem dL_law_234 : decode cL_law 234 = .ok (.aload_n 1, 1) := by decide +kernel
theorem dL_law_235 : decode cL_law 235 = .ok (.aload_n 0, 1) := by decide +kernel
theorem dL_law_236 : decode cL_law 236 = .ok (.iload_n 3, 1) := by decide +kernel
theorem dL_law_237 : decode cL_law 237 = .ok (.iconst 1, 1) := by decide +kernel
theorem dL_law_238 : decode cL_law 238 = .ok (.iadd, 1) := by decide +kernel
theorem dL_law_239 : decode cL_law 239 = .ok (.iaload, 1) := by decide +kernel
theorem dL_law_240 : decode cL_law 240 = .ok (.aload_n 0, 1) := by decide +kernel
theorem dL_law_241 : decode cL_law 241 = .ok (.iload_n 3, 1) := by decide +kernel
theorem dL_law_242 : decode cL_law 242 = .ok (.iconst 2, 1) := by decide +kernel
theorem dL_law_243 : decode cL_law 243 = .ok (.iadd, 1) := by decide +kernel
theorem dL_law_244 : decode cL_law 244 = .ok (.iaload, 1) := by decide +kernel
theorem dL_law_245 : decode cL_law 245 = .ok (.invokevirtual 22, 3) := by decide +kernel
theorem dL_law_248 : decode cL_law 248 = .ok (.pop2, 1) := by decide +kernel
theorem dL_law_249 : decode cL_law 249 = .ok (.aload_n 2, 1) := by decide +kernel
theorem dL_law_250 : decode cL_law 250 = .ok (.aload_n 0, 1) := by decide +kernel
theorem dL_law_251 : decode cL_law 251 = .ok (.iload_n 3, 1) := by decide +kernel
theorem dL_law_252 : decode cL_law 252 = .ok (.iconst 1, 1) := by decide +kernel
theorem dL_law_253 : decode cL_law 253 = .ok (.iadd, 1) := by decide +kernel
theorem dL_law_254 : decode cL_law 254 = .ok (.iaload, 1) := by decide +kernel
theorem dL_law_255 : decode cL_law 255 = .ok (.aload_n 0, 1) := by decide +kernel
theorem dL_law_256 : decode cL_law 256 = .ok (.iload_n 3, 1) := by decide +kernel
theorem dL_law_257 : decode cL_law 257 = .ok (.iconst 2, 1) := by decide +kernel
theorem dL_law_258 : decode cL_law 258 = .ok (.iadd, 1) := by decide +kernel
theorem dL_law_259 : decode cL_law 259 = .ok (.iaload, 1) := by decide +kernel
theorem dL_law_260 : decode cL_law 260 = .ok (.invokevirtual 25, 3) := by decide +kernel
theorem dL_law_263 : decode cL_law 263 = .ok (.pop2, 1) := by decide +kernel
theorem dL_law_264 : decode cL_law 264 = .ok (.goto 655, 3) := by decide +kernel
theorem dL_law_267 : decode cL_law 267 = .ok (.aload_n 1, 1) := by decide +kernel
theorem dL_law_268 : decode cL_law 268 = .ok (.aload_n 0, 1) := by decide +kernel
theorem dL_law_269 : decode cL_law 269 = .ok (.iload_n 3, 1) := by decide +kernel
theorem dL_law_270 : decode cL_law 270 = .ok (.iconst 1, 1) := by decide +kernel
theorem dL_law_271 : decode cL_law 271 = .ok (.iadd, 1) := by decide +kernel
theorem dL_law_272 : decode cL_law 272 = .ok (.iaload, 1) := by decide +kernel
theorem dL_law_273 : decode cL_law 273 = .ok (.aload_n 0, 1) := by decide +kernel
theorem dL_law_274 : decode cL_law 274 = .ok (.iload_n 3, 1) := by decide +kernel
theorem dL_law_275 : decode cL_law 275 = .ok (.iconst 2, 1) := by decide +kernel
theorem dL_law_276 : decode cL_law 276 = .ok (.iadd, 1) := by decide +kernel
theorem dL_law_277 : decode cL_law 277 = .ok (.iaload, 1) := by decide +kernel
theorem dL_law_278 : decode cL_law 278 = .ok (.invokevirtual 26, 3) := by decide +kernel
theorem dL_law_281 : decode cL_law 281 = .ok (.pop2, 1) := by decide +kernel
theorem dL_law_282 : decode cL_law 282 = .ok (.aload_n 2, 1) := by decide +kernel
theorem dL_law_283 : decode cL_law 283 = .ok (.aload_n 0, 1) := by decide +kernel
theorem dL_law_284 : decode cL_law 284 = .ok (.iload_n 3, 1) := by decide +kernel
theorem dL_law_285 : decode cL_law 285 = .ok (.iconst 1, 1) := by decide +kernel
theorem dL_law_286 : decode cL_law 286 = .ok (.iadd, 1) := by decide +kernel
theorem dL_law_287 : decode cL_law 287 = .ok (.iaload, 1) := by decide +kernel
theorem dL_law_288 : decode cL_law 288 = .ok (.aload_n 0, 1) := by decide +kernel
theorem dL_law_289 : decode cL_law 289 = .ok (.iload_n 3, 1) := by decide +kernel
theorem dL_law_290 : decode cL_law 290 = .ok (.iconst 2, 1) := by decide +kernel
theorem dL_law_291 : decode cL_law 291 = .ok (.iadd, 1) := by decide +kernel
theorem dL_law_292 : decode cL_law 292 = .ok (.iaload, 1) := by decide +kernel
theorem dL_law_293 : decode cL_law 293 = .ok (.invokevirtual 29, 3) := by decide +kernel
theorem dL_law_296 : decode cL_law 296 = .ok (.pop2, 1) := by decide +kernel
theorem dL_law_297 : decode cL_law 297 = .ok (.goto 622, 3) := by decide +kernel
theorem dL_law_300 : decode cL_law 300 = .ok (.aload_n 1, 1) := by decide +kernel
theorem dL_law_301 : decode cL_law 301 = .ok (.aload_n 0, 1) := by decide +kernel
theorem dL_law_302 : decode cL_law 302 = .ok (.iload_n 3, 1) := by decide +kernel
theorem dL_law_303 : decode cL_law 303 = .ok (.iconst 1, 1) := by decide +kernel
theorem dL_law_304 : decode cL_law 304 = .ok (.iadd, 1) := by decide +kernel
theorem dL_law_305 : decode cL_law 305 = .ok (.iaload, 1) := by decide +kernel
theorem dL_law_306 : decode cL_law 306 = .ok (.aload_n 0, 1) := by decide +kernel
theorem dL_law_307 : decode cL_law 307 = .ok (.iload_n 3, 1) := by decide +kernel
theorem dL_law_308 : decode cL_law 308 = .ok (.iconst 2, 1) := by decide +kernel
theorem dL_law_309 : decode cL_law 309 = .ok (.iadd, 1) := by decide +kernel
theorem dL_law_310 : decode cL_law 310 = .ok (.iaload, 1) := by decide +kernel
theorem dL_law_311 : decode cL_law 311 = .ok (.aload_n 0, 1) := by decide +kernel
theorem dL_law_312 : decode cL_law 312 = .ok (.iload_n 3, 1) := by decide +kernel
theorem dL_law_313 : decode cL_law 313 = .ok (.iconst 3, 1) := by decide +kernel
theorem dL_law_314 : decode cL_law 314 = .ok (.iadd, 1) := by decide +kernel
theorem dL_law_315 : decode cL_law 315 = .ok (.iaload, 1) := by decide +kernel
theorem dL_law_316 : decode cL_law 316 = .ok (.i2l, 1) := by decide +kernel
theorem dL_law_317 : decode cL_law 317 = .ok (.bipush 32, 2) := by decide +kernel
theorem dL_law_319 : decode cL_law 319 = .ok (.lshl, 1) := by decide +kernel
theorem dL_law_320 : decode cL_law 320 = .ok (.aload_n 0, 1) := by decide +kernel
theorem dL_law_321 : decode cL_law 321 = .ok (.iload_n 3, 1) := by decide +kernel
theorem dL_law_322 : decode cL_law 322 = .ok (.iconst 4, 1) := by decide +kernel
theorem dL_law_323 : decode cL_law 323 = .ok (.iadd, 1) := by decide +kernel
theorem dL_law_324 : decode cL_law 324 = .ok (.iaload, 1) := by decide +kernel
theorem dL_law_325 : decode cL_law 325 = .ok (.i2l, 1) := by decide +kernel
theorem dL_law_326 : decode cL_law 326 = .ok (.ldc2_w 30, 3) := by decide +kernel
theorem dL_law_329 : decode cL_law 329 = .ok (.land, 1) := by decide +kernel
theorem dL_law_330 : decode cL_law 330 = .ok (.lor, 1) := by decide +kernel
theorem dL_law_331 : decode cL_law 331 = .ok (.invokevirtual 32, 3) := by decide +kernel
theorem dL_law_334 : decode cL_law 334 = .ok (.pop2, 1) := by decide +kernel
theorem dL_law_335 : decode cL_law 335 = .ok (.aload_n 2, 1) := by decide +kernel
theorem dL_law_336 : decode cL_law 336 = .ok (.aload_n 0, 1) := by decide +kernel
theorem dL_law_337 : decode cL_law 337 = .ok (.iload_n 3, 1) := by decide +kernel
theorem dL_law_338 : decode cL_law 338 = .ok (.iconst 1, 1) := by decide +kernel
theorem dL_law_339 : decode cL_law 339 = .ok (.iadd, 1) := by decide +kernel
theorem dL_law_340 : decode cL_law 340 = .ok (.iaload, 1) := by decide +kernel
theorem dL_law_341 : decode cL_law 341 = .ok (.aload_n 0, 1) := by decide +kernel
theorem dL_law_342 : decode cL_law 342 = .ok (.iload_n 3, 1) := by decide +kernel
theorem dL_law_343 : decode cL_law 343 = .ok (.iconst 2, 1) := by decide +kernel
theorem dL_law_344 : decode cL_law 344 = .ok (.iadd, 1) := by decide +kernel
theorem dL_law_345 : decode cL_law 345 = .ok (.iaload, 1) := by decide +kernel
theorem dL_law_346 : decode cL_law 346 = .ok (.aload_n 0, 1) := by decide +kernel
theorem dL_law_347 : decode cL_law 347 = .ok (.iload_n 3, 1) := by decide +kernel
theorem dL_law_348 : decode cL_law 348 = .ok (.iconst 3, 1) := by decide +kernel
theorem dL_law_349 : decode cL_law 349 = .ok (.iadd, 1) := by decide +kernel
theorem dL_law_350 : decode cL_law 350 = .ok (.iaload, 1) := by decide +kernel
theorem dL_law_351 : decode cL_law 351 = .ok (.i2l, 1) := by decide +kernel
theorem dL_law_352 : decode cL_law 352 = .ok (.bipush 32, 2) := by decide +kernel
theorem dL_law_354 : decode cL_law 354 = .ok (.lshl, 1) := by decide +kernel
theorem dL_law_355 : decode cL_law 355 = .ok (.aload_n 0, 1) := by decide +kernel
theorem dL_law_356 : decode cL_law 356 = .ok (.iload_n 3, 1) := by decide +kernel
theorem dL_law_357 : decode cL_law 357 = .ok (.iconst 4, 1) := by decide +kernel
theorem dL_law_358 : decode cL_law 358 = .ok (.iadd, 1) := by decide +kernel
theorem dL_law_359 : decode cL_law 359 = .ok (.iaload, 1) := by decide +kernel
theorem dL_law_360 : decode cL_law 360 = .ok (.i2l, 1) := by decide +kernel
theorem dL_law_361 : decode cL_law 361 = .ok (.ldc2_w 30, 3) := by decide +kernel
theorem dL_law_364 : decode cL_law 364 = .ok (.land, 1) := by decide +kernel
theorem dL_law_365 : decode cL_law 365 = .ok (.lor, 1) := by decide +kernel
theorem dL_law_366 : decode cL_law 366 = .ok (.invokevirtual 36, 3) := by decide +kernel
theorem dL_law_369 : decode cL_law 369 = .ok (.pop2, 1) := by decide +kernel
theorem dL_law_370 : decode cL_law 370 = .ok (.goto 549, 3) := by decide +kernel
theorem dL_law_373 : decode cL_law 373 = .ok (.aload_n 1, 1) := by decide +kernel
theorem dL_law_374 : decode cL_law 374 = .ok (.aload_n 0, 1) := by decide +kernel
theorem dL_law_375 : decode cL_law 375 = .ok (.iload_n 3, 1) := by decide +kernel
theorem dL_law_376 : decode cL_law 376 = .ok (.iconst 1, 1) := by decide +kernel
theorem dL_law_377 : decode cL_law 377 = .ok (.iadd, 1) := by decide +kernel
theorem dL_law_378 : decode cL_law 378 = .ok (.iaload, 1) := by decide +kernel
theorem dL_law_379 : decode cL_law 379 = .ok (.invokevirtual 37, 3) := by decide +kernel
theorem dL_law_382 : decode cL_law 382 = .ok (.pop2, 1) := by decide +kernel
theorem dL_law_383 : decode cL_law 383 = .ok (.aload_n 2, 1) := by decide +kernel
theorem dL_law_384 : decode cL_law 384 = .ok (.aload_n 0, 1) := by decide +kernel
theorem dL_law_385 : decode cL_law 385 = .ok (.iload_n 3, 1) := by decide +kernel
theorem dL_law_386 : decode cL_law 386 = .ok (.iconst 1, 1) := by decide +kernel
theorem dL_law_387 : decode cL_law 387 = .ok (.iadd, 1) := by decide +kernel
theorem dL_law_388 : decode cL_law 388 = .ok (.iaload, 1) := by decide +kernel
theorem dL_law_389 : decode cL_law 389 = .ok (.invokevirtual 41, 3) := by decide +kernel
theorem dL_law_392 : decode cL_law 392 = .ok (.pop2, 1) := by decide +kernel
theorem dL_law_393 : decode cL_law 393 = .ok (.goto 526, 3) := by decide +kernel
theorem dL_law_396 : decode cL_law 396 = .ok (.aload_n 1, 1) := by decide +kernel
theorem dL_law_397 : decode cL_law 397 = .ok (.aload_n 0, 1) := by decide +kernel
theorem dL_law_398 : decode cL_law 398 = .ok (.iload_n 3, 1) := by decide +kernel
theorem dL_law_399 : decode cL_law 399 = .ok (.iconst 1, 1) := by decide +kernel
theorem dL_law_400 : decode cL_law 400 = .ok (.iadd, 1) := by decide +kernel
theorem dL_law_401 : decode cL_law 401 = .ok (.iaload, 1) := by decide +kernel
theorem dL_law_402 : decode cL_law 402 = .ok (.aload_n 0, 1) := by decide +kernel
theorem dL_law_403 : decode cL_law 403 = .ok (.iload_n 3, 1) := by decide +kernel
theorem dL_law_404 : decode cL_law 404 = .ok (.iconst 2, 1) := by decide +kernel
theorem dL_law_405 : decode cL_law 405 = .ok (.iadd, 1) := by decide +kernel
theorem dL_law_406 : decode cL_law 406 = .ok (.iaload, 1) := by decide +kernel
theorem dL_law_407 : decode cL_law 407 = .ok (.invokevirtual 42, 3) := by decide +kernel
theorem dL_law_410 : decode cL_law 410 = .ok (.pop2, 1) := by decide +kernel
theorem dL_law_411 : decode cL_law 411 = .ok (.aload_n 2, 1) := by decide +kernel
theorem dL_law_412 : decode cL_law 412 = .ok (.aload_n 0, 1) := by decide +kernel
theorem dL_law_413 : decode cL_law 413 = .ok (.iload_n 3, 1) := by decide +kernel
theorem dL_law_414 : decode cL_law 414 = .ok (.iconst 1, 1) := by decide +kernel
theorem dL_law_415 : decode cL_law 415 = .ok (.iadd, 1) := by decide +kernel
theorem dL_law_416 : decode cL_law 416 = .ok (.iaload, 1) := by decide +kernel
theorem dL_law_417 : decode cL_law 417 = .ok (.aload_n 0, 1) := by decide +kernel
theorem dL_law_418 : decode cL_law 418 = .ok (.iload_n 3, 1) := by decide +kernel
theorem dL_law_419 : decode cL_law 419 = .ok (.iconst 2, 1) := by decide +kernel
theorem dL_law_420 : decode cL_law 420 = .ok (.iadd, 1) := by decide +kernel
theorem dL_law_421 : decode cL_law 421 = .ok (.iaload, 1) := by decide +kernel
theorem dL_law_422 : decode cL_law 422 = .ok (.invokevirtual 45, 3) := by decide +kernel
theorem dL_law_425 : decode cL_law 425 = .ok (.pop2, 1) := by decide +kernel
theorem dL_law_426 : decode cL_law 426 = .ok (.goto 493, 3) := by decide +kernel
theorem dL_law_429 : decode cL_law 429 = .ok (.aload_n 1, 1) := by decide +kernel
theorem dL_law_430 : decode cL_law 430 = .ok (.aload_n 0, 1) := by decide +kernel
theorem dL_law_431 : decode cL_law 431 = .ok (.iload_n 3, 1) := by decide +kernel
theorem dL_law_432 : decode cL_law 432 = .ok (.iconst 1, 1) := by decide +kernel
theorem dL_law_433 : decode cL_law 433 = .ok (.iadd, 1) := by decide +kernel
theorem dL_law_434 : decode cL_law 434 = .ok (.iaload, 1) := by decide +kernel
theorem dL_law_435 : decode cL_law 435 = .ok (.aload_n 0, 1) := by decide +kernel
theorem dL_law_436 : decode cL_law 436 = .ok (.iload_n 3, 1) := by decide +kernel
theorem dL_law_437 : decode cL_law 437 = .ok (.iconst 2, 1) := by decide +kernel
theorem dL_law_438 : decode cL_law 438 = .ok (.iadd, 1) := by decide +kernel
theorem dL_law_439 : decode cL_law 439 = .ok (.iaload, 1) := by decide +kernel
theorem dL_law_440 : decode cL_law 440 = .ok (.invokevirtual 46, 3) := by decide +kernel
theorem dL_law_443 : decode cL_law 443 = .ok (.pop2, 1) := by decide +kernel
theorem dL_law_444 : decode cL_law 444 = .ok (.aload_n 2, 1) := by decide +kernel
theorem dL_law_445 : decode cL_law 445 = .ok (.aload_n 0, 1) := by decide +kernel
theorem dL_law_446 : decode cL_law 446 = .ok (.iload_n 3, 1) := by decide +kernel
theorem dL_law_447 : decode cL_law 447 = .ok (.iconst 1, 1) := by decide +kernel
theorem dL_law_448 : decode cL_law 448 = .ok (.iadd, 1) := by decide +kernel
theorem dL_law_449 : decode cL_law 449 = .ok (.iaload, 1) := by decide +kernel
theorem dL_law_450 : decode cL_law 450 = .ok (.aload_n 0, 1) := by decide +kernel
theorem dL_law_451 : decode cL_law 451 = .ok (.iload_n 3, 1) := by decide +kernel
theorem dL_law_452 : decode cL_law 452 = .ok (.iconst 2, 1) := by decide +kernel
theorem dL_law_453 : decode cL_law 453 = .ok (.iadd, 1) := by decide +kernel
theorem dL_law_454 : decode cL_law 454 = .ok (.iaload, 1) := by decide +kernel
theorem dL_law_455 : decode cL_law 455 = .ok (.invokevirtual 49, 3) := by decide +kernel
theorem dL_law_458 : decode cL_law 458 = .ok (.pop2, 1) := by decide +kernel
theorem dL_law_459 : decode cL_law 459 = .ok (.goto 460, 3) := by decide +kernel
theorem dL_law_462 : decode cL_law 462 = .ok (.aload_n 1, 1) := by decide +kernel
theorem dL_law_463 : decode cL_law 463 = .ok (.aload_n 0, 1) := by decide +kernel
theorem dL_law_464 : decode cL_law 464 = .ok (.iload_n 3, 1) := by decide +kernel
theorem dL_law_465 : decode cL_law 465 = .ok (.iconst 1, 1) := by decide +kernel
theorem dL_law_466 : decode cL_law 466 = .ok (.iadd, 1) := by decide +kernel
theorem dL_law_467 : decode cL_law 467 = .ok (.iaload, 1) := by decide +kernel
theorem dL_law_468 : decode cL_law 468 = .ok (.aload_n 0, 1) := by decide +kernel
theorem dL_law_469 : decode cL_law 469 = .ok (.iload_n 3, 1) := by decide +kernel
theorem dL_law_470 : decode cL_law 470 = .ok (.iconst 2, 1) := by decide +kernel
theorem dL_law_471 : decode cL_law 471 = .ok (.iadd, 1) := by decide +kernel
theorem dL_law_472 : decode cL_law 472 = .ok (.iaload, 1) := by decide +kernel
theorem dL_law_473 : decode cL_law 473 = .ok (.invokevirtual 50, 3) := by decide +kernel
theorem dL_law_476 : decode cL_law 476 = .ok (.pop2, 1) := by decide +kernel
theorem dL_law_477 : decode cL_law 477 = .ok (.aload_n 2, 1) := by decide +kernel
theorem dL_law_478 : decode cL_law 478 = .ok (.aload_n 0, 1) := by decide +kernel
theorem dL_law_479 : decode cL_law 479 = .ok (.iload_n 3, 1) := by decide +kernel
theorem dL_law_480 : decode cL_law 480 = .ok (.iconst 1, 1) := by decide +kernel
theorem dL_law_481 : decode cL_law 481 = .ok (.iadd, 1) := by decide +kernel
theorem dL_law_482 : decode cL_law 482 = .ok (.iaload, 1) := by decide +kernel
theorem dL_law_483 : decode cL_law 483 = .ok (.aload_n 0, 1) := by decide +kernel
theorem dL_law_484 : decode cL_law 484 = .ok (.iload_n 3, 1) := by decide +kernel
theorem dL_law_485 : decode cL_law 485 = .ok (.iconst 2, 1) := by decide +kernel
theorem dL_law_486 : decode cL_law 486 = .ok (.iadd, 1) := by decide +kernel
theorem dL_law_487 : decode cL_law 487 = .ok (.iaload, 1) := by decide +kernel
theorem dL_law_488 : decode cL_law 488 = .ok (.invokevirtual 53, 3) := by decide +kernel
theorem dL_law_491 : decode cL_law 491 = .ok (.pop2, 1) := by decide +kernel
theorem dL_law_492 : decode cL_law 492 = .ok (.goto 427, 3) := by decide +kernel
theorem dL_law_495 : decode cL_law 495 = .ok (.aload_n 1, 1) := by decide +kernel
theorem dL_law_496 : decode cL_law 496 = .ok (.invokevirtual 54, 3) := by decide +kernel
theorem dL_law_499 : decode cL_law 499 = .ok (.pop2, 1) := by decide +kernel
theorem dL_law_500 : decode cL_law 500 = .ok (.aload_n 2, 1) := by decide +kernel
theorem dL_law_501 : decode cL_law 501 = .ok (.invokevirtual 58, 3) := by decide +kernel
theorem dL_law_504 : decode cL_law 504 = .ok (.pop2, 1) := by decide +kernel
theorem dL_law_505 : decode cL_law 505 = .ok (.goto 414, 3) := by decide +kernel
theorem dL_law_508 : decode cL_law 508 = .ok (.aload_n 1, 1) := by decide +kernel
theorem dL_law_509 : decode cL_law 509 = .ok (.invokevirtual 59, 3) := by decide +kernel
theorem dL_law_512 : decode cL_law 512 = .ok (.pop2, 1) := by decide +kernel
theorem dL_law_513 : decode cL_law 513 = .ok (.aload_n 2, 1) := by decide +kernel
theorem dL_law_514 : decode cL_law 514 = .ok (.invokevirtual 62, 3) := by decide +kernel
theorem dL_law_517 : decode cL_law 517 = .ok (.pop2, 1) := by decide +kernel
theorem dL_law_518 : decode cL_law 518 = .ok (.goto 401, 3) := by decide +kernel
theorem dL_law_521 : decode cL_law 521 = .ok (.aload_n 1, 1) := by decide +kernel
theorem dL_law_522 : decode cL_law 522 = .ok (.invokevirtual 63, 3) := by decide +kernel
theorem dL_law_525 : decode cL_law 525 = .ok (.pop2, 1) := by decide +kernel
theorem dL_law_526 : decode cL_law 526 = .ok (.aload_n 2, 1) := by decide +kernel
theorem dL_law_527 : decode cL_law 527 = .ok (.invokevirtual 66, 3) := by decide +kernel
theorem dL_law_530 : decode cL_law 530 = .ok (.pop2, 1) := by decide +kernel
theorem dL_law_531 : decode cL_law 531 = .ok (.goto 388, 3) := by decide +kernel
theorem dL_law_534 : decode cL_law 534 = .ok (.aload_n 1, 1) := by decide +kernel
theorem dL_law_535 : decode cL_law 535 = .ok (.aload_n 0, 1) := by decide +kernel
theorem dL_law_536 : decode cL_law 536 = .ok (.iload_n 3, 1) := by decide +kernel
theorem dL_law_537 : decode cL_law 537 = .ok (.iconst 1, 1) := by decide +kernel
theorem dL_law_538 : decode cL_law 538 = .ok (.iadd, 1) := by decide +kernel
theorem dL_law_539 : decode cL_law 539 = .ok (.iaload, 1) := by decide +kernel
theorem dL_law_540 : decode cL_law 540 = .ok (.i2l, 1) := by decide +kernel
theorem dL_law_541 : decode cL_law 541 = .ok (.bipush 32, 2) := by decide +kernel
theorem dL_law_543 : decode cL_law 543 = .ok (.lshl, 1) := by decide +kernel
theorem dL_law_544 : decode cL_law 544 = .ok (.aload_n 0, 1) := by decide +kernel
theorem dL_law_545 : decode cL_law 545 = .ok (.iload_n 3, 1) := by decide +kernel
theorem dL_law_546 : decode cL_law 546 = .ok (.iconst 2, 1) := by decide +kernel
theorem dL_law_547 : decode cL_law 547 = .ok (.iadd, 1) := by decide +kernel
theorem dL_law_548 : decode cL_law 548 = .ok (.iaload, 1) := by decide +kernel
theorem dL_law_549 : decode cL_law 549 = .ok (.i2l, 1) := by decide +kernel
theorem dL_law_550 : decode cL_law 550 = .ok (.ldc2_w 30, 3) := by decide +kernel
theorem dL_law_553 : decode cL_law 553 = .ok (.land, 1) := by decide +kernel
theorem dL_law_554 : decode cL_law 554 = .ok (.lor, 1) := by decide +kernel
theorem dL_law_555 : decode cL_law 555 = .ok (.invokevirtual 67, 3) := by decide +kernel
theorem dL_law_558 : decode cL_law 558 = .ok (.pop2, 1) := by decide +kernel
theorem dL_law_559 : decode cL_law 559 = .ok (.aload_n 2, 1) := by decide +kernel
theorem dL_law_560 : decode cL_law 560 = .ok (.aload_n 0, 1) := by decide +kernel
theorem dL_law_561 : decode cL_law 561 = .ok (.iload_n 3, 1) := by decide +kernel
theorem dL_law_562 : decode cL_law 562 = .ok (.iconst 1, 1) := by decide +kernel
theorem dL_law_563 : decode cL_law 563 = .ok (.iadd, 1) := by decide +kernel
theorem dL_law_564 : decode cL_law 564 = .ok (.iaload, 1) := by decide +kernel
theorem dL_law_565 : decode cL_law 565 = .ok (.i2l, 1) := by decide +kernel
theorem dL_law_566 : decode cL_law 566 = .ok (.bipush 32, 2) := by decide +kernel
theorem dL_law_568 : decode cL_law 568 = .ok (.lshl, 1) := by decide +kernel
theorem dL_law_569 : decode cL_law 569 = .ok (.aload_n 0, 1) := by decide +kernel
theorem dL_law_570 : decode cL_law 570 = .ok (.iload_n 3, 1) := by decide +kernel
theorem dL_law_571 : decode cL_law 571 = .ok (.iconst 2, 1) := by decide +kernel
theorem dL_law_572 : decode cL_law 572 = .ok (.iadd, 1) := by decide +kernel
theorem dL_law_573 : decode cL_law 573 = .ok (.iaload, 1) := by decide +kernel
theorem dL_law_574 : decode cL_law 574 = .ok (.i2l, 1) := by decide +kernel
theorem dL_law_575 : decode cL_law 575 = .ok (.ldc2_w 30, 3) := by decide +kernel
theorem dL_law_578 : decode cL_law 578 = .ok (.land, 1) := by decide +kernel
theorem dL_law_579 : decode cL_law 579 = .ok (.lor, 1) := by decide +kernel
theorem dL_law_580 : decode cL_law 580 = .ok (.invokevirtual 71, 3) := by decide +kernel
theorem dL_law_583 : decode cL_law 583 = .ok (.pop2, 1) := by decide +kernel
theorem dL_law_584 : decode cL_law 584 = .ok (.goto 335, 3) := by decide +kernel
theorem dL_law_587 : decode cL_law 587 = .ok (.aload_n 1, 1) := by decide +kernel
theorem dL_law_588 : decode cL_law 588 = .ok (.invokevirtual 72, 3) := by decide +kernel
theorem dL_law_591 : decode cL_law 591 = .ok (.pop2, 1) := by decide +kernel
theorem dL_law_592 : decode cL_law 592 = .ok (.aload_n 2, 1) := by decide +kernel
theorem dL_law_593 : decode cL_law 593 = .ok (.invokevirtual 75, 3) := by decide +kernel
theorem dL_law_596 : decode cL_law 596 = .ok (.pop2, 1) := by decide +kernel
theorem dL_law_597 : decode cL_law 597 = .ok (.goto 322, 3) := by decide +kernel
theorem dL_law_600 : decode cL_law 600 = .ok (.aload_n 1, 1) := by decide +kernel
theorem dL_law_601 : decode cL_law 601 = .ok (.aload_n 0, 1) := by decide +kernel
theorem dL_law_602 : decode cL_law 602 = .ok (.iload_n 3, 1) := by decide +kernel
theorem dL_law_603 : decode cL_law 603 = .ok (.iconst 1, 1) := by decide +kernel
theorem dL_law_604 : decode cL_law 604 = .ok (.iadd, 1) := by decide +kernel
theorem dL_law_605 : decode cL_law 605 = .ok (.iaload, 1) := by decide +kernel
theorem dL_law_606 : decode cL_law 606 = .ok (.aload_n 0, 1) := by decide +kernel
theorem dL_law_607 : decode cL_law 607 = .ok (.iload_n 3, 1) := by decide +kernel
theorem dL_law_608 : decode cL_law 608 = .ok (.iconst 2, 1) := by decide +kernel
theorem dL_law_609 : decode cL_law 609 = .ok (.iadd, 1) := by decide +kernel
theorem dL_law_610 : decode cL_law 610 = .ok (.iaload, 1) := by decide +kernel
theorem dL_law_611 : decode cL_law 611 = .ok (.invokevirtual 76, 3) := by decide +kernel
theorem dL_law_614 : decode cL_law 614 = .ok (.pop2, 1) := by decide +kernel
theorem dL_law_615 : decode cL_law 615 = .ok (.aload_n 2, 1) := by decide +kernel
theorem dL_law_616 : decode cL_law 616 = .ok (.aload_n 0, 1) := by decide +kernel
theorem dL_law_617 : decode cL_law 617 = .ok (.iload_n 3, 1) := by decide +kernel
theorem dL_law_618 : decode cL_law 618 = .ok (.iconst 1, 1) := by decide +kernel
theorem dL_law_619 : decode cL_law 619 = .ok (.iadd, 1) := by decide +kernel
theorem dL_law_620 : decode cL_law 620 = .ok (.iaload, 1) := by decide +kernel
theorem dL_law_621 : decode cL_law 621 = .ok (.aload_n 0, 1) := by decide +kernel
theorem dL_law_622 : decode cL_law 622 = .ok (.iload_n 3, 1) := by decide +kernel
theorem dL_law_623 : decode cL_law 623 = .ok (.iconst 2, 1) := by decide +kernel
theorem dL_law_624 : decode cL_law 624 = .ok (.iadd, 1) := by decide +kernel
theorem dL_law_625 : decode cL_law 625 = .ok (.iaload, 1) := by decide +kernel
theorem dL_law_626 : decode cL_law 626 = .ok (.invokevirtual 79, 3) := by decide +kernel
theorem dL_law_629 : decode cL_law 629 = .ok (.pop2, 1) := by decide +kernel
theorem dL_law_630 : decode cL_law 630 = .ok (.goto 289, 3) := by decide +kernel
theorem dL_law_633 : decode cL_law 633 = .ok (.aload_n 1, 1) := by decide +kernel
theorem dL_law_634 : decode cL_law 634 = .ok (.invokevirtual 80, 3) := by decide +kernel
theorem dL_law_637 : decode cL_law 637 = .ok (.pop2, 1) := by decide +kernel
theorem dL_law_638 : decode cL_law 638 = .ok (.aload_n 2, 1) := by decide +kernel
theorem dL_law_639 : decode cL_law 639 = .ok (.invokevirtual 83, 3) := by decide +kernel
theorem dL_law_642 : decode cL_law 642 = .ok (.pop2, 1) := by decide +kernel
theorem dL_law_643 : decode cL_law 643 = .ok (.goto 276, 3) := by decide +kernel
theorem dL_law_646 : decode cL_law 646 = .ok (.aload_n 1, 1) := by decide +kernel
theorem dL_law_647 : decode cL_law 647 = .ok (.invokevirtual 84, 3) := by decide +kernel
theorem dL_law_650 : decode cL_law 650 = .ok (.pop2, 1) := by decide +kernel
theorem dL_law_651 : decode cL_law 651 = .ok (.aload_n 2, 1) := by decide +kernel
theorem dL_law_652 : decode cL_law 652 = .ok (.invokevirtual 87, 3) := by decide +kernel
theorem dL_law_655 : decode cL_law 655 = .ok (.pop2, 1) := by decide +kernel
theorem dL_law_656 : decode cL_law 656 = .ok (.goto 263, 3) := by decide +kernel
theorem dL_law_659 : decode cL_law 659 = .ok (.aload_n 1, 1) := by decide +kernel
theorem dL_law_660 : decode cL_law 660 = .ok (.aload_n 0, 1) := by decide +kernel
theorem dL_law_661 : decode cL_law 661 = .ok (.iload_n 3, 1) := by decide +kernel
theorem dL_law_662 : decode cL_law 662 = .ok (.iconst 1, 1) := by decide +kernel
theorem dL_law_663 : decode cL_law 663 = .ok (.iadd, 1) := by decide +kernel
theorem dL_law_664 : decode cL_law 664 = .ok (.iaload, 1) := by decide +kernel
theorem dL_law_665 : decode cL_law 665 = .ok (.invokevirtual 88, 3) := by decide +kernel
theorem dL_law_668 : decode cL_law 668 = .ok (.pop2, 1) := by decide +kernel
theorem dL_law_669 : decode cL_law 669 = .ok (.aload_n 2, 1) := by decide +kernel
theorem dL_law_670 : decode cL_law 670 = .ok (.aload_n 0, 1) := by decide +kernel
theorem dL_law_671 : decode cL_law 671 = .ok (.iload_n 3, 1) := by decide +kernel
theorem dL_law_672 : decode cL_law 672 = .ok (.iconst 1, 1) := by decide +kernel
theorem dL_law_673 : decode cL_law 673 = .ok (.iadd, 1) := by decide +kernel
theorem dL_law_674 : decode cL_law 674 = .ok (.iaload, 1) := by decide +kernel
theorem dL_law_675 : decode cL_law 675 = .ok (.invokevirtual 91, 3) := by decide +kernel
theorem dL_law_678 : decode cL_law 678 = .ok (.pop2, 1) := by decide +kernel
theorem dL_law_679 : decode cL_law 679 = .ok (.goto 240, 3) := by decide +kernel
theorem dL_law_682 : decode cL_law 682 = .ok (.aload_n 1, 1) := by decide +kernel
theorem dL_law_683 : decode cL_law 683 = .ok (.aload_n 0, 1) := by decide +kernel
theorem dL_law_684 : decode cL_law 684 = .ok (.iload_n 3, 1) := by decide +kernel
theorem dL_law_685 : decode cL_law 685 = .ok (.iconst 1, 1) := by decide +kernel
theorem dL_law_686 : decode cL_law 686 = .ok (.iadd, 1) := by decide +kernel
theorem dL_law_687 : decode cL_law 687 = .ok (.iaload, 1) := by decide +kernel
theorem dL_law_688 : decode cL_law 688 = .ok (.invokevirtual 92, 3) := by decide +kernel
theorem dL_law_691 : decode cL_law 691 = .ok (.pop2, 1) := by decide +kernel
theorem dL_law_692 : decode cL_law 692 = .ok (.aload_n 2, 1) := by decide +kernel
theorem dL_law_693 : decode cL_law 693 = .ok (.aload_n 0, 1) := by decide +kernel
theorem dL_law_694 : decode cL_law 694 = .ok (.iload_n 3, 1) := by decide +kernel
theorem dL_law_695 : decode cL_law 695 = .ok (.iconst 1, 1) := by decide +kernel
theorem dL_law_696 : decode cL_law 696 = .ok (.iadd, 1) := by decide +kernel
theorem dL_law_697 : decode cL_law 697 = .ok (.iaload, 1) := by decide +kernel
theorem dL_law_698 : decode cL_law 698 = .ok (.invokevirtual 95, 3) := by decide +kernel
theorem dL_law_701 : decode cL_law 701 = .ok (.pop2, 1) := by decide +kernel
theorem dL_law_702 : decode cL_law 702 = .ok (.goto 217, 3) := by decide +kernel
theorem dL_law_705 : decode cL_law 705 = .ok (.aload_n 1, 1) := by decide +kernel
theorem dL_law_706 : decode cL_law 706 = .ok (.aload_n 0, 1) := by decide +kernel
theorem dL_law_707 : decode cL_law 707 = .ok (.iload_n 3, 1) := by decide +kernel
theorem dL_law_708 : decode cL_law 708 = .ok (.iconst 1, 1) := by decide +kernel
theorem dL_law_709 : decode cL_law 709 = .ok (.iadd, 1) := by decide +kernel
theorem dL_law_710 : decode cL_law 710 = .ok (.iaload, 1) := by decide +kernel
theorem dL_law_711 : decode cL_law 711 = .ok (.aload_n 0, 1) := by decide +kernel
theorem dL_law_712 : decode cL_law 712 = .ok (.iload_n 3, 1) := by decide +kernel
theorem dL_law_713 : decode cL_law 713 = .ok (.iconst 2, 1) := by decide +kernel
theorem dL_law_714 : decode cL_law 714 = .ok (.iadd, 1) := by decide +kernel
theorem dL_law_715 : decode cL_law 715 = .ok (.iaload, 1) := by decide +kernel
theorem dL_law_716 : decode cL_law 716 = .ok (.invokevirtual 96, 3) := by decide +kernel
theorem dL_law_719 : decode cL_law 719 = .ok (.pop2, 1) := by decide +kernel
theorem dL_law_720 : decode cL_law 720 = .ok (.aload_n 2, 1) := by decide +kernel
theorem dL_law_721 : decode cL_law 721 = .ok (.aload_n 0, 1) := by decide +kernel
theorem dL_law_722 : decode cL_law 722 = .ok (.iload_n 3, 1) := by decide +kernel
theorem dL_law_723 : decode cL_law 723 = .ok (.iconst 1, 1) := by decide +kernel
theorem dL_law_724 : decode cL_law 724 = .ok (.iadd, 1) := by decide +kernel
theorem dL_law_725 : decode cL_law 725 = .ok (.iaload, 1) := by decide +kernel
theorem dL_law_726 : decode cL_law 726 = .ok (.aload_n 0, 1) := by decide +kernel
theorem dL_law_727 : decode cL_law 727 = .ok (.iload_n 3, 1) := by decide +kernel
theorem dL_law_728 : decode cL_law 728 = .ok (.iconst 2, 1) := by decide +kernel
theorem dL_law_729 : decode cL_law 729 = .ok (.iadd, 1) := by decide +kernel
theorem dL_law_730 : decode cL_law 730 = .ok (.iaload, 1) := by decide +kernel
theorem dL_law_731 : decode cL_law 731 = .ok (.invokevirtual 99, 3) := by decide +kernel
theorem dL_law_734 : decode cL_law 734 = .ok (.pop2, 1) := by decide +kernel
theorem dL_law_735 : decode cL_law 735 = .ok (.goto 184, 3) := by decide +kernel
theorem dL_law_738 : decode cL_law 738 = .ok (.aload_n 1, 1) := by decide +kernel
theorem dL_law_739 : decode cL_law 739 = .ok (.invokevirtual 100, 3) := by decide +kernel
theorem dL_law_742 : decode cL_law 742 = .ok (.pop2, 1) := by decide +kernel
theorem dL_law_743 : decode cL_law 743 = .ok (.aload_n 2, 1) := by decide +kernel
theorem dL_law_744 : decode cL_law 744 = .ok (.invokevirtual 103, 3) := by decide +kernel
theorem dL_law_747 : decode cL_law 747 = .ok (.pop2, 1) := by decide +kernel
theorem dL_law_748 : decode cL_law 748 = .ok (.goto 171, 3) := by decide +kernel
theorem dL_law_751 : decode cL_law 751 = .ok (.aload_n 1, 1) := by decide +kernel
theorem dL_law_752 : decode cL_law 752 = .ok (.invokevirtual 104, 3) := by decide +kernel
theorem dL_law_755 : decode cL_law 755 = .ok (.pop2, 1) := by decide +kernel
theorem dL_law_756 : decode cL_law 756 = .ok (.aload_n 2, 1) := by decide +kernel
theorem dL_law_757 : decode cL_law 757 = .ok (.invokevirtual 107, 3) := by decide +kernel
theorem dL_law_760 : decode cL_law 760 = .ok (.pop2, 1) := by decide +kernel
theorem dL_law_761 : decode cL_law 761 = .ok (.goto 158, 3) := by decide +kernel
theorem dL_law_764 : decode cL_law 764 = .ok (.aload_n 1, 1) := by decide +kernel
theorem dL_law_765 : decode cL_law 765 = .ok (.aload_n 0, 1) := by decide +kernel
theorem dL_law_766 : decode cL_law 766 = .ok (.iload_n 3, 1) := by decide +kernel
theorem dL_law_767 : decode cL_law 767 = .ok (.iconst 1, 1) := by decide +kernel
theorem dL_law_768 : decode cL_law 768 = .ok (.iadd, 1) := by decide +kernel
theorem dL_law_769 : decode cL_law 769 = .ok (.iaload, 1) := by decide +kernel
theorem dL_law_770 : decode cL_law 770 = .ok (.invokevirtual 108, 3) := by decide +kernel
theorem dL_law_773 : decode cL_law 773 = .ok (.pop2, 1) := by decide +kernel
theorem dL_law_774 : decode cL_law 774 = .ok (.aload_n 2, 1) := by decide +kernel
theorem dL_law_775 : decode cL_law 775 = .ok (.aload_n 0, 1) := by decide +kernel
theorem dL_law_776 : decode cL_law 776 = .ok (.iload_n 3, 1) := by decide +kernel
theorem dL_law_777 : decode cL_law 777 = .ok (.iconst 1, 1) := by decide +kernel
theorem dL_law_778 : decode cL_law 778 = .ok (.iadd, 1) := by decide +kernel
theorem dL_law_779 : decode cL_law 779 = .ok (.iaload, 1) := by decide +kernel
theorem dL_law_780 : decode cL_law 780 = .ok (.invokevirtual 111, 3) := by decide +kernel
theorem dL_law_783 : decode cL_law 783 = .ok (.pop2, 1) := by decide +kernel
theorem dL_law_784 : decode cL_law 784 = .ok (.goto 135, 3) := by decide +kernel
theorem dL_law_787 : decode cL_law 787 = .ok (.aload_n 1, 1) := by decide +kernel
theorem dL_law_788 : decode cL_law 788 = .ok (.invokevirtual 112, 3) := by decide +kernel
theorem dL_law_791 : decode cL_law 791 = .ok (.pop2, 1) := by decide +kernel
theorem dL_law_792 : decode cL_law 792 = .ok (.aload_n 2, 1) := by decide +kernel
theorem dL_law_793 : decode cL_law 793 = .ok (.invokevirtual 115, 3) := by decide +kernel
theorem dL_law_796 : decode cL_law 796 = .ok (.pop2, 1) := by decide +kernel
theorem dL_law_797 : decode cL_law 797 = .ok (.goto 122, 3) := by decide +kernel
theorem dL_law_800 : decode cL_law 800 = .ok (.aload_n 1, 1) := by decide +kernel
theorem dL_law_801 : decode cL_law 801 = .ok (.invokevirtual 116, 3) := by decide +kernel
theorem dL_law_804 : decode cL_law 804 = .ok (.pop2, 1) := by decide +kernel
theorem dL_law_805 : decode cL_law 805 = .ok (.aload_n 2, 1) := by decide +kernel
theorem dL_law_806 : decode cL_law 806 = .ok (.invokevirtual 119, 3) := by decide +kernel
theorem dL_law_809 : decode cL_law 809 = .ok (.pop2, 1) := by decide +kernel
theorem dL_law_810 : decode cL_law 810 = .ok (.goto 109, 3) := by decide +kernel
theorem dL_law_813 : decode cL_law 813 = .ok (.aload_n 1, 1) := by decide +kernel
theorem dL_law_814 : decode cL_law 814 = .ok (.aload_n 0, 1) := by decide +kernel
theorem dL_law_815 : decode cL_law 815 = .ok (.iload_n 3, 1) := by decide +kernel
theorem dL_law_816 : decode cL_law 816 = .ok (.iconst 1, 1) := by decide +kernel
theorem dL_law_817 : decode cL_law 817 = .ok (.iadd, 1) := by decide +kernel
theorem dL_law_818 : decode cL_law 818 = .ok (.iaload, 1) := by decide +kernel
theorem dL_law_819 : decode cL_law 819 = .ok (.invokevirtual 120, 3) := by decide +kernel
theorem dL_law_822 : decode cL_law 822 = .ok (.pop2, 1) := by decide +kernel
theorem dL_law_823 : decode cL_law 823 = .ok (.aload_n 2, 1) := by decide +kernel
theorem dL_law_824 : decode cL_law 824 = .ok (.aload_n 0, 1) := by decide +kernel
theorem dL_law_825 : decode cL_law 825 = .ok (.iload_n 3, 1) := by decide +kernel
theorem dL_law_826 : decode cL_law 826 = .ok (.iconst 1, 1) := by decide +kernel
theorem dL_law_827 : decode cL_law 827 = .ok (.iadd, 1) := by decide +kernel
theorem dL_law_828 : decode cL_law 828 = .ok (.iaload, 1) := by decide +kernel
theorem dL_law_829 : decode cL_law 829 = .ok (.invokevirtual 123, 3) := by decide +kernel
theorem dL_law_832 : decode cL_law 832 = .ok (.pop2, 1) := by decide +kernel
theorem dL_law_833 : decode cL_law 833 = .ok (.goto 86, 3) := by decide +kernel
theorem dL_law_836 : decode cL_law 836 = .ok (.aload_n 1, 1) := by decide +kernel
theorem dL_law_837 : decode cL_law 837 = .ok (.invokevirtual 124, 3) := by decide +kernel
theorem dL_law_840 : decode cL_law 840 = .ok (.pop2, 1) := by decide +kernel
theorem dL_law_841 : decode cL_law 841 = .ok (.aload_n 2, 1) := by decide +kernel
theorem dL_law_842 : decode cL_law 842 = .ok (.invokevirtual 127, 3) := by decide +kernel
theorem dL_law_845 : decode cL_law 845 = .ok (.pop2, 1) := by decide +kernel
theorem dL_law_846 : decode cL_law 846 = .ok (.goto 73, 3) := by decide +kernel
theorem dL_law_849 : decode cL_law 849 = .ok (.aload_n 1, 1) := by decide +kernel
theorem dL_law_850 : decode cL_law 850 = .ok (.invokevirtual 128, 3) := by decide +kernel
theorem dL_law_853 : decode cL_law 853 = .ok (.pop2, 1) := by decide +kernel
theorem dL_law_854 : decode cL_law 854 = .ok (.aload_n 2, 1) := by decide +kernel
theorem dL_law_855 : decode cL_law 855 = .ok (.invokevirtual 131, 3) := by decide +kernel
theorem dL_law_858 : decode cL_law 858 = .ok (.pop2, 1) := by decide +kernel
theorem dL_law_859 : decode cL_law 859 = .ok (.goto 60, 3) := by decide +kernel
theorem dL_law_862 : decode cL_law 862 = .ok (.aload_n 1, 1) := by decide +kernel
theorem dL_law_863 : decode cL_law 863 = .ok (.aload_n 0, 1) := by decide +kernel
theorem dL_law_864 : decode cL_law 864 = .ok (.iload_n 3, 1) := by decide +kernel
theorem dL_law_865 : decode cL_law 865 = .ok (.iconst 1, 1) := by decide +kernel
theorem dL_law_866 : decode cL_law 866 = .ok (.iadd, 1) := by decide +kernel
theorem dL_law_867 : decode cL_law 867 = .ok (.iaload, 1) := by decide +kernel
theorem dL_law_868 : decode cL_law 868 = .ok (.aload_n 0, 1) := by decide +kernel
theorem dL_law_869 : decode cL_law 869 = .ok (.iload_n 3, 1) := by decide +kernel
theorem dL_law_870 : decode cL_law 870 = .ok (.iconst 2, 1) := by decide +kernel
theorem dL_law_871 : decode cL_law 871 = .ok (.iadd, 1) := by decide +kernel
theorem dL_law_872 : decode cL_law 872 = .ok (.iaload, 1) := by decide +kernel
theorem dL_law_873 : decode cL_law 873 = .ok (.invokevirtual 132, 3) := by decide +kernel
theorem dL_law_876 : decode cL_law 876 = .ok (.pop2, 1) := by decide +kernel
theorem dL_law_877 : decode cL_law 877 = .ok (.aload_n 2, 1) := by decide +kernel
theorem dL_law_878 : decode cL_law 878 = .ok (.aload_n 0, 1) := by decide +kernel
theorem dL_law_879 : decode cL_law 879 = .ok (.iload_n 3, 1) := by decide +kernel
theorem dL_law_880 : decode cL_law 880 = .ok (.iconst 1, 1) := by decide +kernel
theorem dL_law_881 : decode cL_law 881 = .ok (.iadd, 1) := by decide +kernel
theorem dL_law_882 : decode cL_law 882 = .ok (.iaload, 1) := by decide +kernel
theorem dL_law_883 : decode cL_law 883 = .ok (.aload_n 0, 1) := by decide +kernel
theorem dL_law_884 : decode cL_law 884 = .ok (.iload_n 3, 1) := by decide +kernel
theorem dL_law_885 : decode cL_law 885 = .ok (.iconst 2, 1) := by decide +kernel
theorem dL_law_886 : decode cL_law 886 = .ok (.iadd, 1) := by decide +kernel
theorem dL_law_887 : decode cL_law 887 = .ok (.iaload, 1) := by decide +kernel
theorem dL_law_888 : decode cL_law 888 = .ok (.invokevirtual 135, 3) := by decide +kernel
theorem dL_law_891 : decode cL_law 891 = .ok (.pop2, 1) := by decide +kernel
theorem dL_law_892 : decode cL_law 892 = .ok (.goto 27, 3) := by decide +kernel
theorem dL_law_895 : decode cL_law 895 = .ok (.aload_n 1, 1) := by decide +kernel
theorem dL_law_896 : decode cL_law 896 = .ok (.aload_n 0, 1) := by decide +kernel
theorem dL_law_897 : decode cL_law 897 = .ok (.iload_n 3, 1) := by decide +kernel
theorem dL_law_898 : decode cL_law 898 = .ok (.iconst 1, 1) := by decide +kernel
theorem dL_law_899 : decode cL_law 899 = .ok (.iadd, 1) := by decide +kernel
theorem dL_law_900 : decode cL_law 900 = .ok (.iaload, 1) := by decide +kernel
theorem dL_law_901 : decode cL_law 901 = .ok (.invokevirtual 136, 3) := by decide +kernel
theorem dL_law_904 : decode cL_law 904 = .ok (.aload_n 2, 1) := by decide +kernel
theorem dL_law_905 : decode cL_law 905 = .ok (.aload_n 0, 1) := by decide +kernel
theorem dL_law_906 : decode cL_law 906 = .ok (.iload_n 3, 1) := by decide +kernel
theorem dL_law_907 : decode cL_law 907 = .ok (.iconst 1, 1) := by decide +kernel
theorem dL_law_908 : decode cL_law 908 = .ok (.iadd, 1) := by decide +kernel
theorem dL_law_909 : decode cL_law 909 = .ok (.iaload, 1) := by decide +kernel
theorem dL_law_910 : decode cL_law 910 = .ok (.invokevirtual 139, 3) := by decide +kernel
theorem dL_law_913 : decode cL_law 913 = .ok (.lcmp, 1) := by decide +kernel
theorem dL_law_914 : decode cL_law 914 = .ok (.ifCond .eq 5, 3) := by decide +kernel
theorem dL_law_917 : decode cL_law 917 = .ok (.iconst 0, 1) := by decide +kernel
theorem dL_law_918 : decode cL_law 918 = .ok (.ireturn, 1) := by decide +kernel
theorem dL_law_919 : decode cL_law 919 = .ok (.iinc 3 5, 3) := by decide +kernel
theorem dL_law_922 : decode cL_law 922 = .ok (.goto (-904), 3) := by decide +kernel
theorem dL_law_925 : decode cL_law 925 = .ok (.iconst 1, 1) := by decide +kernel
theorem dL_law_926 : decode cL_law 926 = .ok (.ireturn, 1) := by decide +kernel
