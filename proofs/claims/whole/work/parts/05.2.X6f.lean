theorem dX6_is_57 : decode cX6_is 57 = .ok (.aload_n 0, 1) := by decide +kernel
theorem dX6_is_58 : decode cX6_is 58 = .ok (.iconst 0, 1) := by decide +kernel
theorem dX6_is_59 : decode cX6_is 59 = .ok (.iconst 0, 1) := by decide +kernel
theorem dX6_is_60 : decode cX6_is 60 = .ok (.invokevirtual 218, 3) := by decide +kernel
theorem dX6_is_63 : decode cX6_is 63 = .ok (.ifCond .eq 27, 3) := by decide +kernel
theorem dX6_is_66 : decode cX6_is 66 = .ok (.aload_n 0, 1) := by decide +kernel
theorem dX6_is_67 : decode cX6_is 67 = .ok (.iconst 2, 1) := by decide +kernel
theorem dX6_is_68 : decode cX6_is 68 = .ok (.iconst 5, 1) := by decide +kernel
theorem dX6_is_69 : decode cX6_is 69 = .ok (.invokevirtual 224, 3) := by decide +kernel
theorem dX6_is_72 : decode cX6_is 72 = .ok (.ifCond .eq 18, 3) := by decide +kernel
theorem dX6_is_75 : decode cX6_is 75 = .ok (.aload_n 0, 1) := by decide +kernel
theorem dX6_is_76 : decode cX6_is 76 = .ok (.bipush 6, 2) := by decide +kernel
theorem dX6_is_78 : decode cX6_is 78 = .ok (.bipush 7, 2) := by decide +kernel
theorem dX6_is_80 : decode cX6_is 80 = .ok (.invokevirtual 224, 3) := by decide +kernel
theorem dX6_is_83 : decode cX6_is 83 = .ok (.ifCond .eq 7, 3) := by decide +kernel
theorem dX6_is_86 : decode cX6_is 86 = .ok (.iconst 1, 1) := by decide +kernel
theorem dX6_is_87 : decode cX6_is 87 = .ok (.goto 4, 3) := by decide +kernel
theorem dX6_is_90 : decode cX6_is 90 = .ok (.iconst 0, 1) := by decide +kernel
theorem dX6_is_91 : decode cX6_is 91 = .ok (.ireturn, 1) := by decide +kernel
theorem dX6_is_92 : decode cX6_is 92 = .ok (.iload_n 1, 1) := by decide +kernel
theorem dX6_is_93 : decode cX6_is 93 = .ok (.iconst 1, 1) := by decide +kernel
theorem dX6_is_94 : decode cX6_is 94 = .ok (.if_icmp .ne 16, 3) := by decide +kernel
theorem dX6_is_97 : decode cX6_is 97 = .ok (.aload_n 0, 1) := by decide +kernel
theorem dX6_is_98 : decode cX6_is 98 = .ok (.invokevirtual 227, 3) := by decide +kernel
theorem dX6_is_101 : decode cX6_is 101 = .ok (.ifCond .ne 7, 3) := by decide +kernel
theorem dX6_is_104 : decode cX6_is 104 = .ok (.iconst 1, 1) := by decide +kernel
theorem dX6_is_105 : decode cX6_is 105 = .ok (.goto 4, 3) := by decide +kernel
theorem dX6_is_108 : decode cX6_is 108 = .ok (.iconst 0, 1) := by decide +kernel
theorem dX6_is_109 : decode cX6_is 109 = .ok (.ireturn, 1) := by decide +kernel
theorem dX6_is_110 : decode cX6_is 110 = .ok (.iload_n 1, 1) := by decide +kernel
theorem dX6_is_111 : decode cX6_is 111 = .ok (.iconst 2, 1) := by decide +kernel
theorem dX6_is_112 : decode cX6_is 112 = .ok (.if_icmp .ne 25, 3) := by decide +kernel
theorem dX6_is_115 : decode cX6_is 115 = .ok (.aload_n 0, 1) := by decide +kernel
theorem dX6_is_116 : decode cX6_is 116 = .ok (.iconst 0, 1) := by decide +kernel
theorem dX6_is_117 : decode cX6_is 117 = .ok (.iconst 0, 1) := by decide +kernel
theorem dX6_is_118 : decode cX6_is 118 = .ok (.invokevirtual 218, 3) := by decide +kernel
theorem dX6_is_121 : decode cX6_is 121 = .ok (.ifCond .ne 14, 3) := by decide +kernel
theorem dX6_is_124 : decode cX6_is 124 = .ok (.aload_n 0, 1) := by decide +kernel
theorem dX6_is_125 : decode cX6_is 125 = .ok (.invokevirtual 227, 3) := by decide +kernel
theorem dX6_is_128 : decode cX6_is 128 = .ok (.ifCond .eq 7, 3) := by decide +kernel
theorem dX6_is_131 : decode cX6_is 131 = .ok (.iconst 1, 1) := by decide +kernel
theorem dX6_is_132 : decode cX6_is 132 = .ok (.goto 4, 3) := by decide +kernel
theorem dX6_is_135 : decode cX6_is 135 = .ok (.iconst 0, 1) := by decide +kernel
theorem dX6_is_136 : decode cX6_is 136 = .ok (.ireturn, 1) := by decide +kernel
theorem dX6_is_137 : decode cX6_is 137 = .ok (.iload_n 1, 1) := by decide +kernel
theorem dX6_is_138 : decode cX6_is 138 = .ok (.iconst 3, 1) := by decide +kernel
theorem dX6_is_139 : decode cX6_is 139 = .ok (.if_icmp .ne 10, 3) := by decide +kernel
theorem dX6_is_142 : decode cX6_is 142 = .ok (.aload_n 0, 1) := by decide +kernel
theorem dX6_is_143 : decode cX6_is 143 = .ok (.iload_n 2, 1) := by decide +kernel
theorem dX6_is_144 : decode cX6_is 144 = .ok (.iload_n 3, 1) := by decide +kernel
theorem dX6_is_145 : decode cX6_is 145 = .ok (.invokevirtual 231, 3) := by decide +kernel
theorem dX6_is_148 : decode cX6_is 148 = .ok (.ireturn, 1) := by decide +kernel
theorem dX6_is_149 : decode cX6_is 149 = .ok (.iload_n 1, 1) := by decide +kernel
theorem dX6_is_150 : decode cX6_is 150 = .ok (.iconst 4, 1) := by decide +kernel
theorem dX6_is_151 : decode cX6_is 151 = .ok (.if_icmp .ne 27, 3) := by decide +kernel
theorem dX6_is_154 : decode cX6_is 154 = .ok (.aload_n 0, 1) := by decide +kernel
theorem dX6_is_155 : decode cX6_is 155 = .ok (.iconst 0, 1) := by decide +kernel
theorem dX6_is_156 : decode cX6_is 156 = .ok (.iconst 0, 1) := by decide +kernel
theorem dX6_is_157 : decode cX6_is 157 = .ok (.invokevirtual 218, 3) := by decide +kernel
theorem dX6_is_160 : decode cX6_is 160 = .ok (.ifCond .eq 16, 3) := by decide +kernel
theorem dX6_is_163 : decode cX6_is 163 = .ok (.aload_n 0, 1) := by decide +kernel
theorem dX6_is_164 : decode cX6_is 164 = .ok (.iconst 2, 1) := by decide +kernel
theorem dX6_is_165 : decode cX6_is 165 = .ok (.iconst 5, 1) := by decide +kernel
theorem dX6_is_166 : decode cX6_is 166 = .ok (.invokevirtual 224, 3) := by decide +kernel
theorem dX6_is_169 : decode cX6_is 169 = .ok (.ifCond .eq 7, 3) := by decide +kernel
theorem dX6_is_172 : decode cX6_is 172 = .ok (.iconst 1, 1) := by decide +kernel
theorem dX6_is_173 : decode cX6_is 173 = .ok (.goto 4, 3) := by decide +kernel
theorem dX6_is_176 : decode cX6_is 176 = .ok (.iconst 0, 1) := by decide +kernel
theorem dX6_is_177 : decode cX6_is 177 = .ok (.ireturn, 1) := by decide +kernel
theorem dX6_is_178 : decode cX6_is 178 = .ok (.iload_n 1, 1) := by decide +kernel
theorem dX6_is_179 : decode cX6_is 179 = .ok (.iconst 5, 1) := by decide +kernel
theorem dX6_is_180 : decode cX6_is 180 = .ok (.if_icmp .ne 29, 3) := by decide +kernel
theorem dX6_is_183 : decode cX6_is 183 = .ok (.aload_n 0, 1) := by decide +kernel
theorem dX6_is_184 : decode cX6_is 184 = .ok (.iconst 0, 1) := by decide +kernel
theorem dX6_is_185 : decode cX6_is 185 = .ok (.iconst 0, 1) := by decide +kernel
theorem dX6_is_186 : decode cX6_is 186 = .ok (.invokevirtual 218, 3) := by decide +kernel
theorem dX6_is_189 : decode cX6_is 189 = .ok (.ifCond .eq 18, 3) := by decide +kernel
theorem dX6_is_192 : decode cX6_is 192 = .ok (.aload_n 0, 1) := by decide +kernel
theorem dX6_is_193 : decode cX6_is 193 = .ok (.bipush 6, 2) := by decide +kernel
theorem dX6_is_195 : decode cX6_is 195 = .ok (.bipush 7, 2) := by decide +kernel
theorem dX6_is_197 : decode cX6_is 197 = .ok (.invokevirtual 224, 3) := by decide +kernel
theorem dX6_is_200 : decode cX6_is 200 = .ok (.ifCond .eq 7, 3) := by decide +kernel
theorem dX6_is_203 : decode cX6_is 203 = .ok (.iconst 1, 1) := by decide +kernel
theorem dX6_is_204 : decode cX6_is 204 = .ok (.goto 4, 3) := by decide +kernel
theorem dX6_is_207 : decode cX6_is 207 = .ok (.iconst 0, 1) := by decide +kernel
theorem dX6_is_208 : decode cX6_is 208 = .ok (.ireturn, 1) := by decide +kernel
theorem dX6_is_209 : decode cX6_is 209 = .ok (.iload_n 1, 1) := by decide +kernel
theorem dX6_is_210 : decode cX6_is 210 = .ok (.bipush 6, 2) := by decide +kernel
theorem dX6_is_212 : decode cX6_is 212 = .ok (.if_icmp .ne 46, 3) := by decide +kernel
theorem dX6_is_215 : decode cX6_is 215 = .ok (.iload_n 2, 1) := by decide +kernel
theorem dX6_is_216 : decode cX6_is 216 = .ok (.iload_n 3, 1) := by decide +kernel
theorem dX6_is_217 : decode cX6_is 217 = .ok (.if_icmp .ne 39, 3) := by decide +kernel
theorem dX6_is_220 : decode cX6_is 220 = .ok (.iload_n 2, 1) := by decide +kernel
theorem dX6_is_221 : decode cX6_is 221 = .ok (.ifCond .lt 35, 3) := by decide +kernel
theorem dX6_is_224 : decode cX6_is 224 = .ok (.aload_n 0, 1) := by decide +kernel
theorem dX6_is_225 : decode cX6_is 225 = .ok (.getfield 37, 3) := by decide +kernel
theorem dX6_is_228 : decode cX6_is 228 = .ok (.iconst 0, 1) := by decide +kernel
theorem dX6_is_229 : decode cX6_is 229 = .ok (.iaload, 1) := by decide +kernel
theorem dX6_is_230 : decode cX6_is 230 = .ok (.iload_n 2, 1) := by decide +kernel
theorem dX6_is_231 : decode cX6_is 231 = .ok (.if_icmp .ne 25, 3) := by decide +kernel
theorem dX6_is_234 : decode cX6_is 234 = .ok (.aload_n 0, 1) := by decide +kernel
theorem dX6_is_235 : decode cX6_is 235 = .ok (.iconst 0, 1) := by decide +kernel
theorem dX6_is_236 : decode cX6_is 236 = .ok (.iconst 2, 1) := by decide +kernel
theorem dX6_is_237 : decode cX6_is 237 = .ok (.invokevirtual 218, 3) := by decide +kernel
theorem dX6_is_240 : decode cX6_is 240 = .ok (.ifCond .eq 16, 3) := by decide +kernel
theorem dX6_is_243 : decode cX6_is 243 = .ok (.aload_n 0, 1) := by decide +kernel
theorem dX6_is_244 : decode cX6_is 244 = .ok (.iconst 2, 1) := by decide +kernel
theorem dX6_is_245 : decode cX6_is 245 = .ok (.iconst 0, 1) := by decide +kernel
theorem dX6_is_246 : decode cX6_is 246 = .ok (.invokevirtual 218, 3) := by decide +kernel
theorem dX6_is_249 : decode cX6_is 249 = .ok (.ifCond .eq 7, 3) := by decide +kernel
theorem dX6_is_252 : decode cX6_is 252 = .ok (.iconst 1, 1) := by decide +kernel
theorem dX6_is_253 : decode cX6_is 253 = .ok (.goto 4, 3) := by decide +kernel
theorem dX6_is_256 : decode cX6_is 256 = .ok (.iconst 0, 1) := by decide +kernel
theorem dX6_is_257 : decode cX6_is 257 = .ok (.ireturn, 1) := by decide +kernel
theorem dX6_is_258 : decode cX6_is 258 = .ok (.aload_n 0, 1) := by decide +kernel
theorem dX6_is_259 : decode cX6_is 259 = .ok (.invokevirtual 227, 3) := by decide +kernel
theorem dX6_is_262 : decode cX6_is 262 = .ok (.ifCond .eq 36, 3) := by decide +kernel
theorem dX6_is_265 : decode cX6_is 265 = .ok (.iload_n 1, 1) := by decide +kernel
theorem dX6_is_266 : decode cX6_is 266 = .ok (.bipush 7, 2) := by decide +kernel
theorem dX6_is_268 : decode cX6_is 268 = .ok (.if_icmp .ne 15, 3) := by decide +kernel
theorem dX6_is_271 : decode cX6_is 271 = .ok (.aload_n 0, 1) := by decide +kernel
theorem dX6_is_272 : decode cX6_is 272 = .ok (.iconst 2, 1) := by decide +kernel
theorem dX6_is_273 : decode cX6_is 273 = .ok (.iconst 5, 1) := by decide +kernel
theorem dX6_is_274 : decode cX6_is 274 = .ok (.invokevirtual 224, 3) := by decide +kernel
theorem dX6_is_277 : decode cX6_is 277 = .ok (.ifCond .eq 21, 3) := by decide +kernel
theorem dX6_is_280 : decode cX6_is 280 = .ok (.goto 14, 3) := by decide +kernel
theorem dX6_is_283 : decode cX6_is 283 = .ok (.aload_n 0, 1) := by decide +kernel
theorem dX6_is_284 : decode cX6_is 284 = .ok (.bipush 6, 2) := by decide +kernel
theorem dX6_is_286 : decode cX6_is 286 = .ok (.bipush 7, 2) := by decide +kernel
theorem dX6_is_288 : decode cX6_is 288 = .ok (.invokevirtual 224, 3) := by decide +kernel
theorem dX6_is_291 : decode cX6_is 291 = .ok (.ifCond .eq 7, 3) := by decide +kernel
theorem dX6_is_294 : decode cX6_is 294 = .ok (.iconst 1, 1) := by decide +kernel
theorem dX6_is_295 : decode cX6_is 295 = .ok (.goto 4, 3) := by decide +kernel
theorem dX6_is_298 : decode cX6_is 298 = .ok (.iconst 0, 1) := by decide +kernel
theorem dX6_is_299 : decode cX6_is 299 = .ok (.ireturn, 1) := by decide +kernel
set_option maxRecDepth 20000 in
theorem ggX6_dimension_X6_isShape : GoodIn wsX6_dimension wsX6_isShape := goodIn_r _ [5, 6, 7, 4, 8] (by decide +kernel) (by decide +kernel)
set_option maxRecDepth 20000 in
theorem gX6_dimension_X6_isShape : GoodIn wsX6_dimension (va_wsS RX6 64 yX6_isShape wsX6_isShape) := goodIn_app (goodIn_of _ (by decide +kernel)) ggX6_dimension_X6_isShape
set_option maxRecDepth 20000 in
theorem ggX6_dimension_X6_fail : GoodIn wsX6_dimension wsX6_fail := goodIn_r _ [12, 1, 182, 183, 184, 185, 186, 187, 188, 189, 190, 191, 192, 193, 194, 195, 196, 197, 198, 199, 200, 201, 202] (by decide +kernel) (by decide +kernel)
set_option maxRecDepth 20000 in
theorem gX6_dimension_X6_fail : GoodIn wsX6_dimension (wsV RX6 68 RX6 yX6_fail wsX6_fail) := goodIn_app (goodIn_of _ (by decide +kernel)) ggX6_dimension_X6_fail
theorem gm_wsX6_dimension_wsX6_dimension_r1 : ∀ w ∈ wsX6_dimension_r1, w ∈ wsX6_dimension := fun w h => List.mem_cons_of_mem _ (List.mem_append_left _ (List.mem_append_left _ (h)))
theorem gm_wsX6_dimension_wsX6_dimension_r2 : ∀ w ∈ wsX6_dimension_r2, w ∈ wsX6_dimension := fun w h => List.mem_cons_of_mem _ (List.mem_append_left _ (List.mem_append_right _ (List.mem_append_left _ (h))))
theorem gm_wsX6_dimension_wsX6_dimension_r3 : ∀ w ∈ wsX6_dimension_r3, w ∈ wsX6_dimension := fun w h => List.mem_cons_of_mem _ (List.mem_append_left _ (List.mem_append_right _ (List.mem_append_right _ (List.mem_append_left _ (h)))))
theorem gm_wsX6_dimension_wsX6_dimension_r4 : ∀ w ∈ wsX6_dimension_r4, w ∈ wsX6_dimension := fun w h => List.mem_cons_of_mem _ (List.mem_append_left _ (List.mem_append_right _ (List.mem_append_right _ (List.mem_append_right _ (List.mem_append_left _ (h))))))
theorem gm_wsX6_dimension_wsX6_dimension_r5 : ∀ w ∈ wsX6_dimension_r5, w ∈ wsX6_dimension := fun w h => List.mem_cons_of_mem _ (List.mem_append_left _ (List.mem_append_right _ (List.mem_append_right _ (List.mem_append_right _ (List.mem_append_right _ (List.mem_append_left _ (h)))))))
theorem gm_wsX6_dimension_wsX6_dimension_r6 : ∀ w ∈ wsX6_dimension_r6, w ∈ wsX6_dimension := fun w h => List.mem_cons_of_mem _ (List.mem_append_left _ (List.mem_append_right _ (List.mem_append_right _ (List.mem_append_right _ (List.mem_append_right _ (List.mem_append_right _ (List.mem_append_left _ (h))))))))
theorem gm_wsX6_dimension_wsX6_dimension_r7 : ∀ w ∈ wsX6_dimension_r7, w ∈ wsX6_dimension := fun w h => List.mem_cons_of_mem _ (List.mem_append_left _ (List.mem_append_right _ (List.mem_append_right _ (List.mem_append_right _ (List.mem_append_right _ (List.mem_append_right _ (List.mem_append_right _ (List.mem_append_left _ (h)))))))))
theorem gm_wsX6_dimension_wsX6_dimension_r8 : ∀ w ∈ wsX6_dimension_r8, w ∈ wsX6_dimension := fun w h => List.mem_cons_of_mem _ (List.mem_append_left _ (List.mem_append_right _ (List.mem_append_right _ (List.mem_append_right _ (List.mem_append_right _ (List.mem_append_right _ (List.mem_append_right _ (List.mem_append_right _ (h)))))))))
theorem gm_wsX6_dimension_wsX60 : ∀ w ∈ wsX60, w ∈ wsX6_dimension := fun w h => List.mem_cons_of_mem _ (List.mem_append_right _ (h))
set_option maxRecDepth 20000 in
theorem ggX6_dimension_X6_look_s1 : GoodIn wsX6_dimension wsX6_look_r1 := goodIn_sub (mb_c (gm_wsX6_dimension_wsX6_dimension_r1 _ (List.mem_of_getElem? (i := 16) rfl)) (mb_c (gm_wsX6_dimension_wsX6_dimension_r1 _ (List.mem_of_getElem? (i := 17) rfl)) (mb_c (gm_wsX6_dimension_wsX6_dimension_r1 _ (List.mem_of_getElem? (i := 18) rfl)) (mb_c (gm_wsX6_dimension_wsX6_dimension_r1 _ (List.mem_of_getElem? (i := 19) rfl)) (mb_c (gm_wsX6_dimension_wsX6_dimension_r1 _ (List.mem_of_getElem? (i := 20) rfl)) (mb_c (gm_wsX6_dimension_wsX6_dimension_r1 _ (List.mem_of_getElem? (i := 21) rfl)) (mb_c (gm_wsX6_dimension_wsX6_dimension_r1 _ (List.mem_of_getElem? (i := 22) rfl)) (mb_c (gm_wsX6_dimension_wsX6_dimension_r1 _ (List.mem_of_getElem? (i := 23) rfl)) (mb_c (gm_wsX6_dimension_wsX6_dimension_r2 _ (List.mem_of_getElem? (i := 0) rfl)) (mb_c (gm_wsX6_dimension_wsX6_dimension_r2 _ (List.mem_of_getElem? (i := 1) rfl)) (mb_c (gm_wsX6_dimension_wsX6_dimension_r2 _ (List.mem_of_getElem? (i := 2) rfl)) (mb_c (gm_wsX6_dimension_wsX6_dimension_r2 _ (List.mem_of_getElem? (i := 3) rfl)) (mb_c (gm_wsX6_dimension_wsX6_dimension_r2 _ (List.mem_of_getElem? (i := 4) rfl)) (mb_c (gm_wsX6_dimension_wsX6_dimension_r2 _ (List.mem_of_getElem? (i := 5) rfl)) (mb_c (gm_wsX6_dimension_wsX6_dimension_r1 _ (List.mem_of_getElem? (i := 3) rfl)) (mb_c (gm_wsX6_dimension_wsX6_dimension_r2 _ (List.mem_of_getElem? (i := 6) rfl)) (mb_c (gm_wsX6_dimension_wsX6_dimension_r2 _ (List.mem_of_getElem? (i := 7) rfl)) (mb_c (gm_wsX6_dimension_wsX6_dimension_r2 _ (List.mem_of_getElem? (i := 8) rfl)) (mb_c (gm_wsX6_dimension_wsX6_dimension_r2 _ (List.mem_of_getElem? (i := 9) rfl)) (mb_c (gm_wsX6_dimension_wsX6_dimension_r2 _ (List.mem_of_getElem? (i := 10) rfl)) (mb_c (gm_wsX6_dimension_wsX6_dimension_r2 _ (List.mem_of_getElem? (i := 11) rfl)) (mb_c (gm_wsX6_dimension_wsX6_dimension_r2 _ (List.mem_of_getElem? (i := 12) rfl)) (mb_c (gm_wsX6_dimension_wsX6_dimension_r2 _ (List.mem_of_getElem? (i := 13) rfl)) (mb_c (gm_wsX6_dimension_wsX6_dimension_r2 _ (List.mem_of_getElem? (i := 14) rfl)) (mb_n))))))))))))))))))))))))) (by decide +kernel)
set_option maxRecDepth 20000 in
theorem ggX6_dimension_X6_look_s2 : GoodIn wsX6_dimension wsX6_look_r2 := goodIn_sub (mb_c (gm_wsX6_dimension_wsX6_dimension_r2 _ (List.mem_of_getElem? (i := 15) rfl)) (mb_c (gm_wsX6_dimension_wsX6_dimension_r2 _ (List.mem_of_getElem? (i := 16) rfl)) (mb_c (gm_wsX6_dimension_wsX6_dimension_r2 _ (List.mem_of_getElem? (i := 17) rfl)) (mb_c (gm_wsX6_dimension_wsX6_dimension_r2 _ (List.mem_of_getElem? (i := 18) rfl)) (mb_c (gm_wsX6_dimension_wsX6_dimension_r2 _ (List.mem_of_getElem? (i := 19) rfl)) (mb_c (gm_wsX6_dimension_wsX6_dimension_r2 _ (List.mem_of_getElem? (i := 20) rfl)) (mb_c (gm_wsX6_dimension_wsX6_dimension_r2 _ (List.mem_of_getElem? (i := 21) rfl)) (mb_c (gm_wsX6_dimension_wsX6_dimension_r2 _ (List.mem_of_getElem? (i := 22) rfl)) (mb_c (gm_wsX6_dimension_wsX6_dimension_r2 _ (List.mem_of_getElem? (i := 23) rfl)) (mb_c (gm_wsX6_dimension_wsX6_dimension_r3 _ (List.mem_of_getElem? (i := 0) rfl)) (mb_c (gm_wsX6_dimension_wsX6_dimension_r3 _ (List.mem_of_getElem? (i := 1) rfl)) (mb_c (gm_wsX6_dimension_wsX6_dimension_r3 _ (List.mem_of_getElem? (i := 2) rfl)) (mb_c (gm_wsX6_dimension_wsX6_dimension_r3 _ (List.mem_of_getElem? (i := 3) rfl)) (mb_c (gm_wsX6_dimension_wsX6_dimension_r3 _ (List.mem_of_getElem? (i := 4) rfl)) (mb_c (gm_wsX6_dimension_wsX6_dimension_r3 _ (List.mem_of_getElem? (i := 5) rfl)) (mb_c (gm_wsX6_dimension_wsX6_dimension_r3 _ (List.mem_of_getElem? (i := 6) rfl)) (mb_c (gm_wsX6_dimension_wsX6_dimension_r3 _ (List.mem_of_getElem? (i := 7) rfl)) (mb_c (gm_wsX6_dimension_wsX6_dimension_r3 _ (List.mem_of_getElem? (i := 8) rfl)) (mb_c (gm_wsX6_dimension_wsX6_dimension_r3 _ (List.mem_of_getElem? (i := 9) rfl)) (mb_c (gm_wsX6_dimension_wsX6_dimension_r3 _ (List.mem_of_getElem? (i := 10) rfl)) (mb_c (gm_wsX6_dimension_wsX6_dimension_r3 _ (List.mem_of_getElem? (i := 11) rfl)) (mb_c (gm_wsX6_dimension_wsX6_dimension_r3 _ (List.mem_of_getElem? (i := 12) rfl)) (mb_c (gm_wsX6_dimension_wsX6_dimension_r3 _ (List.mem_of_getElem? (i := 13) rfl)) (mb_c (gm_wsX6_dimension_wsX6_dimension_r3 _ (List.mem_of_getElem? (i := 14) rfl)) (mb_n))))))))))))))))))))))))) (by decide +kernel)
set_option maxRecDepth 20000 in
theorem ggX6_dimension_X6_look_s3 : GoodIn wsX6_dimension wsX6_look_r3 := goodIn_sub (mb_c (gm_wsX6_dimension_wsX6_dimension_r3 _ (List.mem_of_getElem? (i := 15) rfl)) (mb_c (gm_wsX6_dimension_wsX6_dimension_r3 _ (List.mem_of_getElem? (i := 16) rfl)) (mb_c (gm_wsX6_dimension_wsX6_dimension_r3 _ (List.mem_of_getElem? (i := 17) rfl)) (mb_c (gm_wsX6_dimension_wsX6_dimension_r3 _ (List.mem_of_getElem? (i := 18) rfl)) (mb_c (gm_wsX6_dimension_wsX6_dimension_r3 _ (List.mem_of_getElem? (i := 19) rfl)) (mb_c (gm_wsX6_dimension_wsX6_dimension_r3 _ (List.mem_of_getElem? (i := 20) rfl)) (mb_c (gm_wsX6_dimension_wsX6_dimension_r3 _ (List.mem_of_getElem? (i := 21) rfl)) (mb_c (gm_wsX6_dimension_wsX6_dimension_r3 _ (List.mem_of_getElem? (i := 22) rfl)) (mb_c (gm_wsX6_dimension_wsX6_dimension_r3 _ (List.mem_of_getElem? (i := 23) rfl)) (mb_c (gm_wsX6_dimension_wsX6_dimension_r4 _ (List.mem_of_getElem? (i := 0) rfl)) (mb_c (gm_wsX6_dimension_wsX6_dimension_r4 _ (List.mem_of_getElem? (i := 1) rfl)) (mb_c (gm_wsX6_dimension_wsX6_dimension_r4 _ (List.mem_of_getElem? (i := 2) rfl)) (mb_c (gm_wsX6_dimension_wsX6_dimension_r4 _ (List.mem_of_getElem? (i := 3) rfl)) (mb_c (gm_wsX6_dimension_wsX6_dimension_r4 _ (List.mem_of_getElem? (i := 4) rfl)) (mb_c (gm_wsX6_dimension_wsX6_dimension_r4 _ (List.mem_of_getElem? (i := 5) rfl)) (mb_c (gm_wsX6_dimension_wsX6_dimension_r4 _ (List.mem_of_getElem? (i := 6) rfl)) (mb_c (gm_wsX6_dimension_wsX6_dimension_r4 _ (List.mem_of_getElem? (i := 7) rfl)) (mb_c (gm_wsX6_dimension_wsX6_dimension_r4 _ (List.mem_of_getElem? (i := 8) rfl)) (mb_c (gm_wsX6_dimension_wsX6_dimension_r4 _ (List.mem_of_getElem? (i := 9) rfl)) (mb_c (gm_wsX6_dimension_wsX6_dimension_r4 _ (List.mem_of_getElem? (i := 10) rfl)) (mb_c (gm_wsX6_dimension_wsX6_dimension_r4 _ (List.mem_of_getElem? (i := 11) rfl)) (mb_c (gm_wsX6_dimension_wsX6_dimension_r4 _ (List.mem_of_getElem? (i := 12) rfl)) (mb_c (gm_wsX6_dimension_wsX6_dimension_r4 _ (List.mem_of_getElem? (i := 13) rfl)) (mb_c (gm_wsX6_dimension_wsX6_dimension_r4 _ (List.mem_of_getElem? (i := 14) rfl)) (mb_n))))))))))))))))))))))))) (by decide +kernel)
set_option maxRecDepth 20000 in
theorem ggX6_dimension_X6_look_s4 : GoodIn wsX6_dimension wsX6_look_r4 := goodIn_sub (mb_c (gm_wsX6_dimension_wsX6_dimension_r4 _ (List.mem_of_getElem? (i := 15) rfl)) (mb_c (gm_wsX6_dimension_wsX6_dimension_r4 _ (List.mem_of_getElem? (i := 16) rfl)) (mb_c (gm_wsX6_dimension_wsX6_dimension_r4 _ (List.mem_of_getElem? (i := 17) rfl)) (mb_c (gm_wsX6_dimension_wsX6_dimension_r4 _ (List.mem_of_getElem? (i := 18) rfl)) (mb_c (gm_wsX6_dimension_wsX6_dimension_r4 _ (List.mem_of_getElem? (i := 19) rfl)) (mb_c (gm_wsX6_dimension_wsX6_dimension_r4 _ (List.mem_of_getElem? (i := 20) rfl)) (mb_c (gm_wsX6_dimension_wsX6_dimension_r4 _ (List.mem_of_getElem? (i := 21) rfl)) (mb_c (gm_wsX6_dimension_wsX6_dimension_r4 _ (List.mem_of_getElem? (i := 22) rfl)) (mb_c (gm_wsX6_dimension_wsX6_dimension_r4 _ (List.mem_of_getElem? (i := 23) rfl)) (mb_c (gm_wsX6_dimension_wsX6_dimension_r5 _ (List.mem_of_getElem? (i := 0) rfl)) (mb_c (gm_wsX6_dimension_wsX6_dimension_r5 _ (List.mem_of_getElem? (i := 1) rfl)) (mb_c (gm_wsX6_dimension_wsX6_dimension_r5 _ (List.mem_of_getElem? (i := 2) rfl)) (mb_c (gm_wsX6_dimension_wsX6_dimension_r5 _ (List.mem_of_getElem? (i := 3) rfl)) (mb_c (gm_wsX6_dimension_wsX6_dimension_r5 _ (List.mem_of_getElem? (i := 4) rfl)) (mb_c (gm_wsX6_dimension_wsX6_dimension_r5 _ (List.mem_of_getElem? (i := 5) rfl)) (mb_c (gm_wsX6_dimension_wsX6_dimension_r5 _ (List.mem_of_getElem? (i := 6) rfl)) (mb_c (gm_wsX6_dimension_wsX6_dimension_r5 _ (List.mem_of_getElem? (i := 7) rfl)) (mb_c (gm_wsX6_dimension_wsX6_dimension_r5 _ (List.mem_of_getElem? (i := 8) rfl)) (mb_c (gm_wsX6_dimension_wsX6_dimension_r5 _ (List.mem_of_getElem? (i := 9) rfl)) (mb_c (gm_wsX6_dimension_wsX6_dimension_r5 _ (List.mem_of_getElem? (i := 10) rfl)) (mb_c (gm_wsX6_dimension_wsX6_dimension_r5 _ (List.mem_of_getElem? (i := 11) rfl)) (mb_c (gm_wsX6_dimension_wsX6_dimension_r5 _ (List.mem_of_getElem? (i := 12) rfl)) (mb_c (gm_wsX6_dimension_wsX6_dimension_r5 _ (List.mem_of_getElem? (i := 13) rfl)) (mb_c (gm_wsX6_dimension_wsX6_dimension_r5 _ (List.mem_of_getElem? (i := 14) rfl)) (mb_n))))))))))))))))))))))))) (by decide +kernel)
set_option maxRecDepth 20000 in
theorem ggX6_dimension_X6_look_s5 : GoodIn wsX6_dimension wsX6_look_r5 := goodIn_sub (mb_c (gm_wsX6_dimension_wsX6_dimension_r5 _ (List.mem_of_getElem? (i := 15) rfl)) (mb_c (gm_wsX6_dimension_wsX6_dimension_r5 _ (List.mem_of_getElem? (i := 16) rfl)) (mb_c (gm_wsX6_dimension_wsX6_dimension_r5 _ (List.mem_of_getElem? (i := 17) rfl)) (mb_c (gm_wsX6_dimension_wsX6_dimension_r5 _ (List.mem_of_getElem? (i := 18) rfl)) (mb_c (gm_wsX6_dimension_wsX6_dimension_r5 _ (List.mem_of_getElem? (i := 19) rfl)) (mb_c (gm_wsX6_dimension_wsX6_dimension_r5 _ (List.mem_of_getElem? (i := 20) rfl)) (mb_c (gm_wsX6_dimension_wsX6_dimension_r5 _ (List.mem_of_getElem? (i := 21) rfl)) (mb_c (gm_wsX6_dimension_wsX6_dimension_r5 _ (List.mem_of_getElem? (i := 22) rfl)) (mb_c (gm_wsX6_dimension_wsX6_dimension_r5 _ (List.mem_of_getElem? (i := 23) rfl)) (mb_c (gm_wsX6_dimension_wsX6_dimension_r6 _ (List.mem_of_getElem? (i := 0) rfl)) (mb_c (gm_wsX6_dimension_wsX6_dimension_r6 _ (List.mem_of_getElem? (i := 1) rfl)) (mb_c (gm_wsX6_dimension_wsX6_dimension_r6 _ (List.mem_of_getElem? (i := 2) rfl)) (mb_c (gm_wsX6_dimension_wsX6_dimension_r6 _ (List.mem_of_getElem? (i := 3) rfl)) (mb_c (gm_wsX6_dimension_wsX6_dimension_r6 _ (List.mem_of_getElem? (i := 4) rfl)) (mb_c (gm_wsX6_dimension_wsX6_dimension_r6 _ (List.mem_of_getElem? (i := 5) rfl)) (mb_c (gm_wsX6_dimension_wsX6_dimension_r6 _ (List.mem_of_getElem? (i := 6) rfl)) (mb_c (gm_wsX6_dimension_wsX6_dimension_r6 _ (List.mem_of_getElem? (i := 7) rfl)) (mb_c (gm_wsX6_dimension_wsX6_dimension_r6 _ (List.mem_of_getElem? (i := 8) rfl)) (mb_c (gm_wsX6_dimension_wsX6_dimension_r6 _ (List.mem_of_getElem? (i := 9) rfl)) (mb_c (gm_wsX6_dimension_wsX6_dimension_r6 _ (List.mem_of_getElem? (i := 10) rfl)) (mb_c (gm_wsX6_dimension_wsX6_dimension_r6 _ (List.mem_of_getElem? (i := 11) rfl)) (mb_c (gm_wsX6_dimension_wsX6_dimension_r6 _ (List.mem_of_getElem? (i := 12) rfl)) (mb_c (gm_wsX6_dimension_wsX6_dimension_r6 _ (List.mem_of_getElem? (i := 13) rfl)) (mb_c (gm_wsX6_dimension_wsX6_dimension_r6 _ (List.mem_of_getElem? (i := 14) rfl)) (mb_n))))))))))))))))))))))))) (by decide +kernel)
set_option maxRecDepth 20000 in
theorem ggX6_dimension_X6_look_s6 : GoodIn wsX6_dimension wsX6_look_r6 := goodIn_sub (mb_c (gm_wsX6_dimension_wsX6_dimension_r6 _ (List.mem_of_getElem? (i := 15) rfl)) (mb_c (gm_wsX6_dimension_wsX6_dimension_r6 _ (List.mem_of_getElem? (i := 16) rfl)) (mb_c (gm_wsX6_dimension_wsX6_dimension_r6 _ (List.mem_of_getElem? (i := 17) rfl)) (mb_c (gm_wsX6_dimension_wsX6_dimension_r6 _ (List.mem_of_getElem? (i := 18) rfl)) (mb_c (gm_wsX6_dimension_wsX6_dimension_r6 _ (List.mem_of_getElem? (i := 19) rfl)) (mb_c (gm_wsX6_dimension_wsX6_dimension_r6 _ (List.mem_of_getElem? (i := 20) rfl)) (mb_c (gm_wsX6_dimension_wsX6_dimension_r6 _ (List.mem_of_getElem? (i := 21) rfl)) (mb_c (gm_wsX6_dimension_wsX6_dimension_r6 _ (List.mem_of_getElem? (i := 22) rfl)) (mb_c (gm_wsX6_dimension_wsX6_dimension_r6 _ (List.mem_of_getElem? (i := 23) rfl)) (mb_c (gm_wsX6_dimension_wsX6_dimension_r7 _ (List.mem_of_getElem? (i := 0) rfl)) (mb_c (gm_wsX6_dimension_wsX6_dimension_r7 _ (List.mem_of_getElem? (i := 1) rfl)) (mb_c (gm_wsX6_dimension_wsX6_dimension_r7 _ (List.mem_of_getElem? (i := 2) rfl)) (mb_c (gm_wsX6_dimension_wsX6_dimension_r7 _ (List.mem_of_getElem? (i := 3) rfl)) (mb_c (gm_wsX6_dimension_wsX6_dimension_r7 _ (List.mem_of_getElem? (i := 4) rfl)) (mb_c (gm_wsX6_dimension_wsX6_dimension_r7 _ (List.mem_of_getElem? (i := 5) rfl)) (mb_c (gm_wsX6_dimension_wsX6_dimension_r7 _ (List.mem_of_getElem? (i := 6) rfl)) (mb_c (gm_wsX6_dimension_wsX6_dimension_r7 _ (List.mem_of_getElem? (i := 7) rfl)) (mb_c (gm_wsX6_dimension_wsX6_dimension_r7 _ (List.mem_of_getElem? (i := 8) rfl)) (mb_c (gm_wsX6_dimension_wsX6_dimension_r7 _ (List.mem_of_getElem? (i := 9) rfl)) (mb_c (gm_wsX6_dimension_wsX6_dimension_r7 _ (List.mem_of_getElem? (i := 10) rfl)) (mb_c (gm_wsX6_dimension_wsX6_dimension_r7 _ (List.mem_of_getElem? (i := 11) rfl)) (mb_c (gm_wsX6_dimension_wsX6_dimension_r7 _ (List.mem_of_getElem? (i := 12) rfl)) (mb_c (gm_wsX6_dimension_wsX6_dimension_r7 _ (List.mem_of_getElem? (i := 13) rfl)) (mb_c (gm_wsX6_dimension_wsX6_dimension_r7 _ (List.mem_of_getElem? (i := 14) rfl)) (mb_n))))))))))))))))))))))))) (by decide +kernel)
set_option maxRecDepth 20000 in
theorem ggX6_dimension_X6_look_s7 : GoodIn wsX6_dimension wsX6_look_r7 := goodIn_sub (mb_c (gm_wsX6_dimension_wsX6_dimension_r7 _ (List.mem_of_getElem? (i := 15) rfl)) (mb_c (gm_wsX6_dimension_wsX6_dimension_r7 _ (List.mem_of_getElem? (i := 16) rfl)) (mb_c (gm_wsX6_dimension_wsX6_dimension_r7 _ (List.mem_of_getElem? (i := 17) rfl)) (mb_c (gm_wsX6_dimension_wsX6_dimension_r7 _ (List.mem_of_getElem? (i := 18) rfl)) (mb_c (gm_wsX6_dimension_wsX6_dimension_r7 _ (List.mem_of_getElem? (i := 19) rfl)) (mb_c (gm_wsX6_dimension_wsX6_dimension_r7 _ (List.mem_of_getElem? (i := 20) rfl)) (mb_c (gm_wsX6_dimension_wsX6_dimension_r7 _ (List.mem_of_getElem? (i := 21) rfl)) (mb_c (gm_wsX6_dimension_wsX6_dimension_r7 _ (List.mem_of_getElem? (i := 22) rfl)) (mb_c (gm_wsX6_dimension_wsX6_dimension_r7 _ (List.mem_of_getElem? (i := 23) rfl)) (mb_c (gm_wsX6_dimension_wsX6_dimension_r8 _ (List.mem_of_getElem? (i := 0) rfl)) (mb_c (gm_wsX6_dimension_wsX6_dimension_r8 _ (List.mem_of_getElem? (i := 1) rfl)) (mb_c (gm_wsX6_dimension_wsX6_dimension_r8 _ (List.mem_of_getElem? (i := 2) rfl)) (mb_c (gm_wsX6_dimension_wsX6_dimension_r8 _ (List.mem_of_getElem? (i := 3) rfl)) (mb_c (gm_wsX6_dimension_wsX6_dimension_r8 _ (List.mem_of_getElem? (i := 4) rfl)) (mb_n))))))))))))))) (by decide +kernel)
set_option maxRecDepth 20000 in
theorem ggX6_dimension_X6_look : GoodIn wsX6_dimension wsX6_look := (gi_c (gm_wsX6_dimension_wsX6_dimension_r1 _ (List.mem_of_getElem? (i := 15) rfl)) (by decide +kernel) (goodIn_app (goodIn_app ggX6_dimension_X6_look_s1 (goodIn_app ggX6_dimension_X6_look_s2 (goodIn_app ggX6_dimension_X6_look_s3 (goodIn_app ggX6_dimension_X6_look_s4 (goodIn_app ggX6_dimension_X6_look_s5 (goodIn_app ggX6_dimension_X6_look_s6 ggX6_dimension_X6_look_s7)))))) (goodIn_sub gm_wsX6_dimension_wsX60 (by decide +kernel))))
set_option maxRecDepth 20000 in
theorem gX6_dimension_X6_look : GoodIn wsX6_dimension (wsV RX6 212 RX6 yX6_look wsX6_look) := goodIn_app (goodIn_of _ (by decide +kernel)) ggX6_dimension_X6_look
set_option maxRecDepth 20000 in
theorem ggX6_dimension_X6_insideOf : GoodIn wsX6_dimension wsX6_insideOf := goodIn_r _ [177, 33, 19, 18, 178, 179, 180, 4, 181, 20, 47, 182, 183, 184, 185, 186, 187, 188, 189, 190, 191, 192, 193, 194, 195, 196, 197, 198, 199, 200, 201, 202] (by decide +kernel) (by decide +kernel)
set_option maxRecDepth 20000 in
theorem gX6_dimension_X6_insideOf : GoodIn wsX6_dimension (wsV RX6 221 RX6 yX6_insideOf wsX6_insideOf) := goodIn_app (goodIn_of _ (by decide +kernel)) ggX6_dimension_X6_insideOf
set_option maxRecDepth 20000 in
theorem ggX6_dimension_X6_hasSegments : GoodIn wsX6_dimension wsX6_hasSegments := goodIn_r _ [181, 20, 47, 182, 183, 184, 185, 186, 187, 188, 189, 190, 191, 192, 193, 194, 195, 196, 197, 198, 199, 200, 201, 202] (by decide +kernel) (by decide +kernel)
set_option maxRecDepth 20000 in
theorem gX6_dimension_X6_hasSegments : GoodIn wsX6_dimension (wsV RX6 215 RX6 yX6_hasSegments wsX6_hasSegments) := goodIn_app (goodIn_of _ (by decide +kernel)) ggX6_dimension_X6_hasSegments
theorem dX6_dimension_0 : decode cX6_dimension 0 = .ok (.aload_n 0, 1) := by decide +kernel
theorem dX6_dimension_1 : decode cX6_dimension 1 = .ok (.iconst 0, 1) := by decide +kernel
theorem dX6_dimension_2 : decode cX6_dimension 2 = .ok (.putfield 54, 3) := by decide +kernel
theorem dX6_dimension_5 : decode cX6_dimension 5 = .ok (.iload_n 1, 1) := by decide +kernel
theorem dX6_dimension_6 : decode cX6_dimension 6 = .ok (.invokestatic 64, 3) := by decide +kernel
theorem dX6_dimension_9 : decode cX6_dimension 9 = .ok (.ifCond .ne 9, 3) := by decide +kernel
theorem dX6_dimension_12 : decode cX6_dimension 12 = .ok (.aload_n 0, 1) := by decide +kernel
theorem dX6_dimension_13 : decode cX6_dimension 13 = .ok (.iconst 1, 1) := by decide +kernel
theorem dX6_dimension_14 : decode cX6_dimension 14 = .ok (.invokevirtual 68, 3) := by decide +kernel
theorem dX6_dimension_17 : decode cX6_dimension 17 = .ok (.ireturn, 1) := by decide +kernel
theorem dX6_dimension_18 : decode cX6_dimension 18 = .ok (.aload_n 0, 1) := by decide +kernel
theorem dX6_dimension_19 : decode cX6_dimension 19 = .ok (.invokevirtual 212, 3) := by decide +kernel
theorem dX6_dimension_22 : decode cX6_dimension 22 = .ok (.aload_n 0, 1) := by decide +kernel
theorem dX6_dimension_23 : decode cX6_dimension 23 = .ok (.iload_n 1, 1) := by decide +kernel
theorem dX6_dimension_24 : decode cX6_dimension 24 = .ok (.invokevirtual 221, 3) := by decide +kernel
theorem dX6_dimension_27 : decode cX6_dimension 27 = .ok (.istore_n 2, 1) := by decide +kernel
theorem dX6_dimension_28 : decode cX6_dimension 28 = .ok (.iload_n 2, 1) := by decide +kernel
theorem dX6_dimension_29 : decode cX6_dimension 29 = .ok (.ifCond .ge 15, 3) := by decide +kernel
theorem dX6_dimension_32 : decode cX6_dimension 32 = .ok (.aload_n 0, 1) := by decide +kernel
theorem dX6_dimension_33 : decode cX6_dimension 33 = .ok (.iload_n 1, 1) := by decide +kernel
theorem dX6_dimension_34 : decode cX6_dimension 34 = .ok (.invokevirtual 215, 3) := by decide +kernel
theorem dX6_dimension_37 : decode cX6_dimension 37 = .ok (.ifCond .eq 7, 3) := by decide +kernel
theorem dX6_dimension_40 : decode cX6_dimension 40 = .ok (.iconst 1, 1) := by decide +kernel
theorem dX6_dimension_41 : decode cX6_dimension 41 = .ok (.goto 4, 3) := by decide +kernel
theorem dX6_dimension_44 : decode cX6_dimension 44 = .ok (.iload_n 2, 1) := by decide +kernel
theorem dX6_dimension_45 : decode cX6_dimension 45 = .ok (.ireturn, 1) := by decide +kernel
set_option maxRecDepth 20000 in
theorem ggX6_count_X6_isShape : GoodIn wsX6_count wsX6_isShape := goodIn_r _ [8, 9, 10, 7, 11] (by decide +kernel) (by decide +kernel)
set_option maxRecDepth 20000 in
theorem gX6_count_X6_isShape : GoodIn wsX6_count (va_wsS RX6 64 yX6_isShape wsX6_isShape) := goodIn_app (goodIn_of _ (by decide +kernel)) ggX6_count_X6_isShape
set_option maxRecDepth 20000 in
theorem ggX6_count_X6_within : GoodIn wsX6_count wsX6_within := goodIn_r _ [11] (by decide +kernel) (by decide +kernel)
set_option maxRecDepth 20000 in
theorem gX6_count_X6_within : GoodIn wsX6_count (va_wsS RX6 60 yX6_within wsX6_within) := goodIn_app (goodIn_of _ (by decide +kernel)) ggX6_count_X6_within
set_option maxRecDepth 20000 in
theorem ggX6_count_X6_fail : GoodIn wsX6_count wsX6_fail := goodIn_r _ [15, 1, 16, 17, 18, 19, 20, 21, 22, 23, 24, 25, 26, 27, 28, 29, 30, 31, 32, 33, 34, 35, 36] (by decide +kernel) (by decide +kernel)
set_option maxRecDepth 20000 in
theorem gX6_count_X6_fail : GoodIn wsX6_count (wsV RX6 68 RX6 yX6_fail wsX6_fail) := goodIn_app (goodIn_of _ (by decide +kernel)) ggX6_count_X6_fail
theorem dX6_count_0 : decode cX6_count 0 = .ok (.aload_n 0, 1) := by decide +kernel
theorem dX6_count_1 : decode cX6_count 1 = .ok (.iconst 0, 1) := by decide +kernel
theorem dX6_count_2 : decode cX6_count 2 = .ok (.putfield 54, 3) := by decide +kernel
theorem dX6_count_5 : decode cX6_count 5 = .ok (.iload_n 1, 1) := by decide +kernel
theorem dX6_count_6 : decode cX6_count 6 = .ok (.invokestatic 64, 3) := by decide +kernel
