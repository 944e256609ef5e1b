-- rows of the law's helpers
theorem ggL_isReceiver_X6_seen : GoodIn wsL_isReceiver wsX6_seen := goodIn_ca (goodIn_r _ [5, 6, 7, 8, 9, 10, 4, 11, 12, 13, 14, 15, 16, 17, 18, 19, 20, 21, 22, 23, 24, 25, 26, 27, 28, 29, 30, 31, 32, 33, 34, 35, 36, 37, 38, 39, 40, 41, 42, 43, 44, 45, 46, 47, 48, 49, 50, 51, 52, 53, 54, 55, 114, 115, 116, 117, 118, 119, 120, 121, 122, 123, 124, 125, 126, 127, 128, 129, 130, 131, 132, 133, 134, 135, 136, 137, 138, 139, 140] (by decide +kernel) (by decide +kernel)) (goodIn_sub (fun _ h => List.mem_cons_of_mem _ (List.mem_append_left _ (List.mem_append_right _ h))) (by decide +kernel))
theorem gL_isReceiver_X6_seen : GoodIn wsL_isReceiver (wsV RL 8 RX6 yX6_seen wsX6_seen) := goodIn_app (goodIn_of _ (by decide +kernel)) ggL_isReceiver_X6_seen
theorem ggL_isReceiver_X6_seenAt : GoodIn wsL_isReceiver wsX6_seenAt := goodIn_ca (goodIn_ca (goodIn_r _ [59, 60, 61, 6, 7, 55, 8, 9, 10, 4, 11, 12, 13, 14, 15, 16, 17, 18, 19, 20, 21, 22, 23, 24, 25, 26, 27, 28, 29, 30, 31, 32, 33, 34, 35, 36, 37, 38, 39, 40, 41, 42, 43, 44, 45, 46, 47, 48, 49, 50, 51, 52, 53, 54, 114, 115, 116, 117, 118, 119, 120, 121, 122, 123, 124, 125, 126, 127, 128, 129, 130, 131, 132, 133, 134, 135, 136, 137, 138, 139, 140] (by decide +kernel) (by decide +kernel)) (goodIn_sub (fun _ h => List.mem_cons_of_mem _ (List.mem_append_right _ h)) (by decide +kernel))) (goodIn_sub (fun _ h => List.mem_cons_of_mem _ (List.mem_append_left _ (List.mem_append_right _ h))) (by decide +kernel))
theorem gL_isReceiver_X6_seenAt : GoodIn wsL_isReceiver (wsV RL 14 RX6 yX6_seenAt wsX6_seenAt) := goodIn_app (goodIn_of _ (by decide +kernel)) ggL_isReceiver_X6_seenAt
theorem ggL_isReceiver_X6_target : GoodIn wsL_isReceiver wsX6_target := goodIn_ca (goodIn_r _ [65, 66, 6, 28, 25, 67, 68, 8, 9, 10, 4, 11, 12, 13, 14, 15, 16, 17, 18, 19, 20, 21, 22, 23, 24, 26, 27, 29, 30, 31, 32, 33, 34, 35, 36, 37, 38, 39, 7, 40, 41, 42, 43, 44, 45, 46, 47, 48, 49, 50, 51, 52, 53, 54, 55, 69, 70, 71, 72, 73, 74, 75, 76, 77, 78, 79, 80, 81, 82, 83, 84, 85, 86, 87, 88, 89, 90, 91, 114, 115, 116, 117, 118, 119, 120, 131, 132, 133, 141, 142, 123, 124, 125, 126, 127, 128, 129, 130, 134, 135, 136, 137, 138, 139, 140, 121, 122] (by decide +kernel) (by decide +kernel)) (goodIn_sub (fun _ h => List.mem_cons_of_mem _ (List.mem_append_left _ (List.mem_append_right _ h))) (by decide +kernel))
theorem gL_isReceiver_X6_target : GoodIn wsL_isReceiver (wsV RL 18 RX6 yX6_target wsX6_target) := goodIn_app (goodIn_of _ (by decide +kernel)) ggL_isReceiver_X6_target
theorem ggL_isReceiver_X6_targetBySteps : GoodIn wsL_isReceiver wsX6_targetBySteps := goodIn_ca (goodIn_r _ [95, 66, 6, 28, 25, 67, 68, 8, 9, 10, 4, 11, 12, 13, 14, 15, 16, 17, 18, 19, 20, 21, 22, 23, 24, 26, 27, 29, 30, 31, 32, 33, 34, 35, 36, 37, 38, 39, 7, 40, 41, 42, 43, 44, 45, 46, 47, 48, 49, 50, 51, 52, 53, 54, 55, 96, 97, 98, 72, 99, 76, 77, 78, 79, 80, 81, 100, 101, 102, 103, 74, 75, 82, 83, 84, 85, 86, 104, 105, 106, 107, 87, 88, 89, 90, 91, 114, 115, 116, 117, 118, 119, 120, 131, 132, 133, 141, 142, 123, 124, 125, 126, 127, 128, 129, 130, 134, 135, 136, 137, 138, 139, 140, 121, 122] (by decide +kernel) (by decide +kernel)) (goodIn_sub (fun _ h => List.mem_cons_of_mem _ (List.mem_append_left _ (List.mem_append_right _ h))) (by decide +kernel))
theorem gL_isReceiver_X6_targetBySteps : GoodIn wsL_isReceiver (wsV RL 21 RX6 yX6_targetBySteps wsX6_targetBySteps) := goodIn_app (goodIn_of _ (by decide +kernel)) ggL_isReceiver_X6_targetBySteps
theorem ggL_isReceiver_X6_layer : GoodIn wsL_isReceiver wsX6_layer := goodIn_ca (goodIn_r _ [111, 112, 113, 8, 9, 10, 4, 11, 12, 13, 14, 15, 16, 17, 18, 19, 20, 114, 115, 116, 117, 118, 119, 120, 143, 144, 123, 124, 125, 126, 127, 128, 129, 130] (by decide +kernel) (by decide +kernel)) (goodIn_sub (fun _ h => List.mem_cons_of_mem _ (List.mem_append_left _ (List.mem_append_right _ h))) (by decide +kernel))
theorem gL_isReceiver_X6_layer : GoodIn wsL_isReceiver (wsV RL 24 RX6 yX6_layer wsX6_layer) := goodIn_app (goodIn_of _ (by decide +kernel)) ggL_isReceiver_X6_layer
theorem dL_isReceiver_0 : decode cL_isReceiver 0 = .ok (.aload_n 0, 1) := by decide +kernel
theorem dL_isReceiver_1 : decode cL_isReceiver 1 = .ok (.iload 7, 2) := by decide +kernel
theorem dL_isReceiver_3 : decode cL_isReceiver 3 = .ok (.invokevirtual 8, 3) := by decide +kernel
theorem dL_isReceiver_6 : decode cL_isReceiver 6 = .ok (.istore 8, 2) := by decide +kernel
theorem dL_isReceiver_8 : decode cL_isReceiver 8 = .ok (.iconst 0, 1) := by decide +kernel
theorem dL_isReceiver_9 : decode cL_isReceiver 9 = .ok (.istore 9, 2) := by decide +kernel
theorem dL_isReceiver_11 : decode cL_isReceiver 11 = .ok (.iconst 0, 1) := by decide +kernel
theorem dL_isReceiver_12 : decode cL_isReceiver 12 = .ok (.istore 10, 2) := by decide +kernel
theorem dL_isReceiver_14 : decode cL_isReceiver 14 = .ok (.iconst 0, 1) := by decide +kernel
theorem dL_isReceiver_15 : decode cL_isReceiver 15 = .ok (.istore 11, 2) := by decide +kernel
theorem dL_isReceiver_17 : decode cL_isReceiver 17 = .ok (.iload 8, 2) := by decide +kernel
theorem dL_isReceiver_19 : decode cL_isReceiver 19 = .ok (.ifCond .lt 16, 3) := by decide +kernel
theorem dL_isReceiver_22 : decode cL_isReceiver 22 = .ok (.iload 8, 2) := by decide +kernel
theorem dL_isReceiver_24 : decode cL_isReceiver 24 = .ok (.aload_n 2, 1) := by decide +kernel
theorem dL_isReceiver_25 : decode cL_isReceiver 25 = .ok (.iload 7, 2) := by decide +kernel
theorem dL_isReceiver_27 : decode cL_isReceiver 27 = .ok (.iaload, 1) := by decide +kernel
theorem dL_isReceiver_28 : decode cL_isReceiver 28 = .ok (.if_icmp .gt 7, 3) := by decide +kernel
theorem dL_isReceiver_31 : decode cL_isReceiver 31 = .ok (.iconst 1, 1) := by decide +kernel
theorem dL_isReceiver_32 : decode cL_isReceiver 32 = .ok (.goto 4, 3) := by decide +kernel
theorem dL_isReceiver_35 : decode cL_isReceiver 35 = .ok (.iconst 0, 1) := by decide +kernel
theorem dL_isReceiver_36 : decode cL_isReceiver 36 = .ok (.istore 12, 2) := by decide +kernel
theorem dL_isReceiver_38 : decode cL_isReceiver 38 = .ok (.iconst 0, 1) := by decide +kernel
theorem dL_isReceiver_39 : decode cL_isReceiver 39 = .ok (.istore 13, 2) := by decide +kernel
theorem dL_isReceiver_41 : decode cL_isReceiver 41 = .ok (.iload 13, 2) := by decide +kernel
theorem dL_isReceiver_43 : decode cL_isReceiver 43 = .ok (.iload 8, 2) := by decide +kernel
theorem dL_isReceiver_45 : decode cL_isReceiver 45 = .ok (.if_icmp .ge 86, 3) := by decide +kernel
theorem dL_isReceiver_48 : decode cL_isReceiver 48 = .ok (.iload 12, 2) := by decide +kernel
theorem dL_isReceiver_50 : decode cL_isReceiver 50 = .ok (.ifCond .eq 81, 3) := by decide +kernel
theorem dL_isReceiver_53 : decode cL_isReceiver 53 = .ok (.aload_n 0, 1) := by decide +kernel
theorem dL_isReceiver_54 : decode cL_isReceiver 54 = .ok (.iload 7, 2) := by decide +kernel
theorem dL_isReceiver_56 : decode cL_isReceiver 56 = .ok (.iload 13, 2) := by decide +kernel
theorem dL_isReceiver_58 : decode cL_isReceiver 58 = .ok (.invokevirtual 14, 3) := by decide +kernel
theorem dL_isReceiver_61 : decode cL_isReceiver 61 = .ok (.istore 14, 2) := by decide +kernel
theorem dL_isReceiver_63 : decode cL_isReceiver 63 = .ok (.iload 14, 2) := by decide +kernel
theorem dL_isReceiver_65 : decode cL_isReceiver 65 = .ok (.ifCond .lt 48, 3) := by decide +kernel
theorem dL_isReceiver_68 : decode cL_isReceiver 68 = .ok (.iload 14, 2) := by decide +kernel
theorem dL_isReceiver_70 : decode cL_isReceiver 70 = .ok (.bipush 6, 2) := by decide +kernel
theorem dL_isReceiver_72 : decode cL_isReceiver 72 = .ok (.if_icmp .ge 41, 3) := by decide +kernel
theorem dL_isReceiver_75 : decode cL_isReceiver 75 = .ok (.iload 14, 2) := by decide +kernel
theorem dL_isReceiver_77 : decode cL_isReceiver 77 = .ok (.iload 7, 2) := by decide +kernel
theorem dL_isReceiver_79 : decode cL_isReceiver 79 = .ok (.if_icmp .eq 34, 3) := by decide +kernel
theorem dL_isReceiver_82 : decode cL_isReceiver 82 = .ok (.aload_n 1, 1) := by decide +kernel
theorem dL_isReceiver_83 : decode cL_isReceiver 83 = .ok (.iload 14, 2) := by decide +kernel
theorem dL_isReceiver_85 : decode cL_isReceiver 85 = .ok (.iaload, 1) := by decide +kernel
theorem dL_isReceiver_86 : decode cL_isReceiver 86 = .ok (.iconst 1, 1) := by decide +kernel
theorem dL_isReceiver_87 : decode cL_isReceiver 87 = .ok (.if_icmp .ne 26, 3) := by decide +kernel
theorem dL_isReceiver_90 : decode cL_isReceiver 90 = .ok (.aload 4, 2) := by decide +kernel
theorem dL_isReceiver_92 : decode cL_isReceiver 92 = .ok (.iload 14, 2) := by decide +kernel
theorem dL_isReceiver_94 : decode cL_isReceiver 94 = .ok (.iaload, 1) := by decide +kernel
theorem dL_isReceiver_95 : decode cL_isReceiver 95 = .ok (.iconst 1, 1) := by decide +kernel
theorem dL_isReceiver_96 : decode cL_isReceiver 96 = .ok (.if_icmp .ne 17, 3) := by decide +kernel
theorem dL_isReceiver_99 : decode cL_isReceiver 99 = .ok (.iload 10, 2) := by decide +kernel
theorem dL_isReceiver_101 : decode cL_isReceiver 101 = .ok (.iload 14, 2) := by decide +kernel
theorem dL_isReceiver_103 : decode cL_isReceiver 103 = .ok (.ishr, 1) := by decide +kernel
theorem dL_isReceiver_104 : decode cL_isReceiver 104 = .ok (.iconst 1, 1) := by decide +kernel
theorem dL_isReceiver_105 : decode cL_isReceiver 105 = .ok (.iand, 1) := by decide +kernel
theorem dL_isReceiver_106 : decode cL_isReceiver 106 = .ok (.ifCond .ne 7, 3) := by decide +kernel
theorem dL_isReceiver_109 : decode cL_isReceiver 109 = .ok (.iconst 1, 1) := by decide +kernel
theorem dL_isReceiver_110 : decode cL_isReceiver 110 = .ok (.goto 4, 3) := by decide +kernel
theorem dL_isReceiver_113 : decode cL_isReceiver 113 = .ok (.iconst 0, 1) := by decide +kernel
theorem dL_isReceiver_114 : decode cL_isReceiver 114 = .ok (.istore 12, 2) := by decide +kernel
theorem dL_isReceiver_116 : decode cL_isReceiver 116 = .ok (.iload 10, 2) := by decide +kernel
theorem dL_isReceiver_118 : decode cL_isReceiver 118 = .ok (.iconst 1, 1) := by decide +kernel
theorem dL_isReceiver_119 : decode cL_isReceiver 119 = .ok (.iload 14, 2) := by decide +kernel
theorem dL_isReceiver_121 : decode cL_isReceiver 121 = .ok (.ishl, 1) := by decide +kernel
theorem dL_isReceiver_122 : decode cL_isReceiver 122 = .ok (.ior, 1) := by decide +kernel
theorem dL_isReceiver_123 : decode cL_isReceiver 123 = .ok (.istore 10, 2) := by decide +kernel
theorem dL_isReceiver_125 : decode cL_isReceiver 125 = .ok (.iinc 13 1, 3) := by decide +kernel
theorem dL_isReceiver_128 : decode cL_isReceiver 128 = .ok (.goto (-87), 3) := by decide +kernel
theorem dL_isReceiver_131 : decode cL_isReceiver 131 = .ok (.iconst 0, 1) := by decide +kernel
theorem dL_isReceiver_132 : decode cL_isReceiver 132 = .ok (.istore 13, 2) := by decide +kernel
theorem dL_isReceiver_134 : decode cL_isReceiver 134 = .ok (.iload 13, 2) := by decide +kernel
theorem dL_isReceiver_136 : decode cL_isReceiver 136 = .ok (.bipush 6, 2) := by decide +kernel
theorem dL_isReceiver_138 : decode cL_isReceiver 138 = .ok (.if_icmp .ge 157, 3) := by decide +kernel
theorem dL_isReceiver_141 : decode cL_isReceiver 141 = .ok (.iload 12, 2) := by decide +kernel
theorem dL_isReceiver_143 : decode cL_isReceiver 143 = .ok (.ifCond .eq 152, 3) := by decide +kernel
theorem dL_isReceiver_146 : decode cL_isReceiver 146 = .ok (.aload_n 1, 1) := by decide +kernel
theorem dL_isReceiver_147 : decode cL_isReceiver 147 = .ok (.iload 13, 2) := by decide +kernel
theorem dL_isReceiver_149 : decode cL_isReceiver 149 = .ok (.iaload, 1) := by decide +kernel
theorem dL_isReceiver_150 : decode cL_isReceiver 150 = .ok (.iconst 1, 1) := by decide +kernel
theorem dL_isReceiver_151 : decode cL_isReceiver 151 = .ok (.if_icmp .ne 138, 3) := by decide +kernel
theorem dL_isReceiver_154 : decode cL_isReceiver 154 = .ok (.iload 13, 2) := by decide +kernel
theorem dL_isReceiver_156 : decode cL_isReceiver 156 = .ok (.iload 7, 2) := by decide +kernel
theorem dL_isReceiver_158 : decode cL_isReceiver 158 = .ok (.if_icmp .eq 131, 3) := by decide +kernel
theorem dL_isReceiver_161 : decode cL_isReceiver 161 = .ok (.aload_n 0, 1) := by decide +kernel
theorem dL_isReceiver_162 : decode cL_isReceiver 162 = .ok (.iload 7, 2) := by decide +kernel
theorem dL_isReceiver_164 : decode cL_isReceiver 164 = .ok (.iload 13, 2) := by decide +kernel
theorem dL_isReceiver_166 : decode cL_isReceiver 166 = .ok (.invokevirtual 18, 3) := by decide +kernel
theorem dL_isReceiver_169 : decode cL_isReceiver 169 = .ok (.istore 14, 2) := by decide +kernel
theorem dL_isReceiver_171 : decode cL_isReceiver 171 = .ok (.iload 9, 2) := by decide +kernel
theorem dL_isReceiver_173 : decode cL_isReceiver 173 = .ok (.aload 4, 2) := by decide +kernel
theorem dL_isReceiver_175 : decode cL_isReceiver 175 = .ok (.iload 13, 2) := by decide +kernel
theorem dL_isReceiver_177 : decode cL_isReceiver 177 = .ok (.iaload, 1) := by decide +kernel
theorem dL_isReceiver_178 : decode cL_isReceiver 178 = .ok (.iadd, 1) := by decide +kernel
theorem dL_isReceiver_179 : decode cL_isReceiver 179 = .ok (.istore 9, 2) := by decide +kernel
theorem dL_isReceiver_181 : decode cL_isReceiver 181 = .ok (.iload 11, 2) := by decide +kernel
theorem dL_isReceiver_183 : decode cL_isReceiver 183 = .ok (.iload 14, 2) := by decide +kernel
theorem dL_isReceiver_185 : decode cL_isReceiver 185 = .ok (.ifCond .ne 7, 3) := by decide +kernel
theorem dL_isReceiver_188 : decode cL_isReceiver 188 = .ok (.iconst 0, 1) := by decide +kernel
theorem dL_isReceiver_189 : decode cL_isReceiver 189 = .ok (.goto 19, 3) := by decide +kernel
theorem dL_isReceiver_192 : decode cL_isReceiver 192 = .ok (.aload 5, 2) := by decide +kernel
theorem dL_isReceiver_194 : decode cL_isReceiver 194 = .ok (.iload 13, 2) := by decide +kernel
theorem dL_isReceiver_196 : decode cL_isReceiver 196 = .ok (.iaload, 1) := by decide +kernel
theorem dL_isReceiver_197 : decode cL_isReceiver 197 = .ok (.iload 14, 2) := by decide +kernel
theorem dL_isReceiver_199 : decode cL_isReceiver 199 = .ok (.iconst 1, 1) := by decide +kernel
theorem dL_isReceiver_200 : decode cL_isReceiver 200 = .ok (.isub, 1) := by decide +kernel
theorem dL_isReceiver_201 : decode cL_isReceiver 201 = .ok (.aload 6, 2) := by decide +kernel
theorem dL_isReceiver_203 : decode cL_isReceiver 203 = .ok (.iload 13, 2) := by decide +kernel
theorem dL_isReceiver_205 : decode cL_isReceiver 205 = .ok (.iaload, 1) := by decide +kernel
theorem dL_isReceiver_206 : decode cL_isReceiver 206 = .ok (.imul, 1) := by decide +kernel
theorem dL_isReceiver_207 : decode cL_isReceiver 207 = .ok (.iadd, 1) := by decide +kernel
theorem dL_isReceiver_208 : decode cL_isReceiver 208 = .ok (.iadd, 1) := by decide +kernel
theorem dL_isReceiver_209 : decode cL_isReceiver 209 = .ok (.istore 11, 2) := by decide +kernel
theorem dL_isReceiver_211 : decode cL_isReceiver 211 = .ok (.iload 14, 2) := by decide +kernel
theorem dL_isReceiver_213 : decode cL_isReceiver 213 = .ok (.ifCond .lt 73, 3) := by decide +kernel
theorem dL_isReceiver_216 : decode cL_isReceiver 216 = .ok (.iload 14, 2) := by decide +kernel
theorem dL_isReceiver_218 : decode cL_isReceiver 218 = .ok (.iconst 3, 1) := by decide +kernel
theorem dL_isReceiver_219 : decode cL_isReceiver 219 = .ok (.if_icmp .gt 67, 3) := by decide +kernel
theorem dL_isReceiver_222 : decode cL_isReceiver 222 = .ok (.aload_n 0, 1) := by decide +kernel
theorem dL_isReceiver_223 : decode cL_isReceiver 223 = .ok (.iload 7, 2) := by decide +kernel
theorem dL_isReceiver_225 : decode cL_isReceiver 225 = .ok (.iload 13, 2) := by decide +kernel
theorem dL_isReceiver_227 : decode cL_isReceiver 227 = .ok (.invokevirtual 21, 3) := by decide +kernel
theorem dL_isReceiver_230 : decode cL_isReceiver 230 = .ok (.iload 14, 2) := by decide +kernel
theorem dL_isReceiver_232 : decode cL_isReceiver 232 = .ok (.if_icmp .ne 54, 3) := by decide +kernel
theorem dL_isReceiver_235 : decode cL_isReceiver 235 = .ok (.iload 14, 2) := by decide +kernel
theorem dL_isReceiver_237 : decode cL_isReceiver 237 = .ok (.ifCond .eq 14, 3) := by decide +kernel
theorem dL_isReceiver_240 : decode cL_isReceiver 240 = .ok (.iload 10, 2) := by decide +kernel
theorem dL_isReceiver_242 : decode cL_isReceiver 242 = .ok (.iload 13, 2) := by decide +kernel
theorem dL_isReceiver_244 : decode cL_isReceiver 244 = .ok (.ishr, 1) := by decide +kernel
theorem dL_isReceiver_245 : decode cL_isReceiver 245 = .ok (.iconst 1, 1) := by decide +kernel
theorem dL_isReceiver_246 : decode cL_isReceiver 246 = .ok (.iand, 1) := by decide +kernel
theorem dL_isReceiver_247 : decode cL_isReceiver 247 = .ok (.iconst 1, 1) := by decide +kernel
theorem dL_isReceiver_248 : decode cL_isReceiver 248 = .ok (.if_icmp .ne 38, 3) := by decide +kernel
theorem dL_isReceiver_251 : decode cL_isReceiver 251 = .ok (.aload_n 0, 1) := by decide +kernel
theorem dL_isReceiver_252 : decode cL_isReceiver 252 = .ok (.iload 7, 2) := by decide +kernel
theorem dL_isReceiver_254 : decode cL_isReceiver 254 = .ok (.iload 13, 2) := by decide +kernel
theorem dL_isReceiver_256 : decode cL_isReceiver 256 = .ok (.invokevirtual 24, 3) := by decide +kernel
theorem dL_isReceiver_259 : decode cL_isReceiver 259 = .ok (.ifCond .lt 27, 3) := by decide +kernel
theorem dL_isReceiver_262 : decode cL_isReceiver 262 = .ok (.aload 4, 2) := by decide +kernel
theorem dL_isReceiver_264 : decode cL_isReceiver 264 = .ok (.iload 13, 2) := by decide +kernel
theorem dL_isReceiver_266 : decode cL_isReceiver 266 = .ok (.iaload, 1) := by decide +kernel
theorem dL_isReceiver_267 : decode cL_isReceiver 267 = .ok (.iconst 1, 1) := by decide +kernel
theorem dL_isReceiver_268 : decode cL_isReceiver 268 = .ok (.if_icmp .eq 14, 3) := by decide +kernel
theorem dL_isReceiver_271 : decode cL_isReceiver 271 = .ok (.aload_n 0, 1) := by decide +kernel
theorem dL_isReceiver_272 : decode cL_isReceiver 272 = .ok (.iload 7, 2) := by decide +kernel
theorem dL_isReceiver_274 : decode cL_isReceiver 274 = .ok (.iload 13, 2) := by decide +kernel
theorem dL_isReceiver_276 : decode cL_isReceiver 276 = .ok (.invokevirtual 24, 3) := by decide +kernel
theorem dL_isReceiver_279 : decode cL_isReceiver 279 = .ok (.ifCond .ne 7, 3) := by decide +kernel
theorem dL_isReceiver_282 : decode cL_isReceiver 282 = .ok (.iconst 1, 1) := by decide +kernel
theorem dL_isReceiver_283 : decode cL_isReceiver 283 = .ok (.goto 4, 3) := by decide +kernel
theorem dL_isReceiver_286 : decode cL_isReceiver 286 = .ok (.iconst 0, 1) := by decide +kernel
theorem dL_isReceiver_287 : decode cL_isReceiver 287 = .ok (.istore 12, 2) := by decide +kernel
theorem dL_isReceiver_289 : decode cL_isReceiver 289 = .ok (.iinc 13 1, 3) := by decide +kernel
theorem dL_isReceiver_292 : decode cL_isReceiver 292 = .ok (.goto (-158), 3) := by decide +kernel
theorem dL_isReceiver_295 : decode cL_isReceiver 295 = .ok (.iload 12, 2) := by decide +kernel
theorem dL_isReceiver_297 : decode cL_isReceiver 297 = .ok (.ifCond .eq 39, 3) := by decide +kernel
theorem dL_isReceiver_300 : decode cL_isReceiver 300 = .ok (.iload 11, 2) := by decide +kernel
theorem dL_isReceiver_302 : decode cL_isReceiver 302 = .ok (.aload_n 3, 1) := by decide +kernel
theorem dL_isReceiver_303 : decode cL_isReceiver 303 = .ok (.iload 7, 2) := by decide +kernel
theorem dL_isReceiver_305 : decode cL_isReceiver 305 = .ok (.iaload, 1) := by decide +kernel
theorem dL_isReceiver_306 : decode cL_isReceiver 306 = .ok (.if_icmp .gt 30, 3) := by decide +kernel
theorem dL_isReceiver_309 : decode cL_isReceiver 309 = .ok (.iload 8, 2) := by decide +kernel
theorem dL_isReceiver_311 : decode cL_isReceiver 311 = .ok (.iload 9, 2) := by decide +kernel
theorem dL_isReceiver_313 : decode cL_isReceiver 313 = .ok (.aload_n 2, 1) := by decide +kernel
theorem dL_isReceiver_314 : decode cL_isReceiver 314 = .ok (.iload 7, 2) := by decide +kernel
theorem dL_isReceiver_316 : decode cL_isReceiver 316 = .ok (.iaload, 1) := by decide +kernel
theorem dL_isReceiver_317 : decode cL_isReceiver 317 = .ok (.if_icmp .ge 8, 3) := by decide +kernel
theorem dL_isReceiver_320 : decode cL_isReceiver 320 = .ok (.iload 9, 2) := by decide +kernel
theorem dL_isReceiver_322 : decode cL_isReceiver 322 = .ok (.goto 7, 3) := by decide +kernel
theorem dL_isReceiver_325 : decode cL_isReceiver 325 = .ok (.aload_n 2, 1) := by decide +kernel
theorem dL_isReceiver_326 : decode cL_isReceiver 326 = .ok (.iload 7, 2) := by decide +kernel
theorem dL_isReceiver_328 : decode cL_isReceiver 328 = .ok (.iaload, 1) := by decide +kernel
theorem dL_isReceiver_329 : decode cL_isReceiver 329 = .ok (.if_icmp .ne 7, 3) := by decide +kernel
theorem dL_isReceiver_332 : decode cL_isReceiver 332 = .ok (.iconst 1, 1) := by decide +kernel
theorem dL_isReceiver_333 : decode cL_isReceiver 333 = .ok (.goto 4, 3) := by decide +kernel
theorem dL_isReceiver_336 : decode cL_isReceiver 336 = .ok (.iconst 0, 1) := by decide +kernel
theorem dL_isReceiver_337 : decode cL_isReceiver 337 = .ok (.ireturn, 1) := by decide +kernel
theorem ggL_isSent_X6_sent : GoodIn wsL_isSent wsX6_sent := goodIn_ca (goodIn_r _ [5, 6, 7, 8, 9, 10, 11, 4, 12, 13, 14, 15, 16, 17, 18, 19, 20, 21, 22, 23, 24, 25, 26, 27, 28, 99, 100, 101, 102, 103, 104, 105, 106, 107, 108, 109, 110, 111, 112, 113, 114, 115, 116, 117, 118, 119, 120, 121, 122] (by decide +kernel) (by decide +kernel)) (goodIn_sub (fun _ h => List.mem_cons_of_mem _ (List.mem_append_right _ h)) (by decide +kernel))
theorem gL_isSent_X6_sent : GoodIn wsL_isSent (wsV RL 27 RX6 yX6_sent wsX6_sent) := goodIn_app (goodIn_of _ (by decide +kernel)) ggL_isSent_X6_sent
theorem ggL_isSent_X6_layer : GoodIn wsL_isSent wsX6_layer := goodIn_ca (goodIn_r _ [32, 7, 8, 9, 10, 11, 4, 12, 13, 14, 15, 16, 17, 18, 19, 20, 21, 99, 100, 101, 102, 103, 104, 105, 106, 107, 108, 109, 110, 111, 112, 113, 114, 115] (by decide +kernel) (by decide +kernel)) (goodIn_sub (fun _ h => List.mem_cons_of_mem _ (List.mem_append_right _ h)) (by decide +kernel))
theorem gL_isSent_X6_layer : GoodIn wsL_isSent (wsV RL 24 RX6 yX6_layer wsX6_layer) := goodIn_app (goodIn_of _ (by decide +kernel)) ggL_isSent_X6_layer
theorem ggL_isSent_X6_target : GoodIn wsL_isSent wsX6_target := goodIn_ca (goodIn_r _ [36, 37, 38, 6, 39, 40, 41, 9, 10, 11, 4, 12, 13, 14, 15, 16, 17, 18, 19, 20, 21, 42, 43, 44, 45, 46, 47, 48, 49, 50, 51, 52, 53, 54, 55, 56, 57, 58, 59, 60, 61, 62, 63, 64, 65, 66, 67, 68, 69, 70, 71, 72, 73, 74, 75, 76, 77, 78, 79, 80, 81, 82, 83, 84, 85, 86, 87, 88, 89, 90, 91, 92, 93, 94, 95, 96, 97, 98, 99, 100, 101, 102, 103, 104, 105, 123, 124, 125, 126, 127, 108, 109, 110, 111, 112, 113, 114, 115, 116, 117, 118, 119, 120, 121, 122, 128, 129] (by decide +kernel) (by decide +kernel)) (goodIn_sub (fun _ h => List.mem_cons_of_mem _ (List.mem_append_right _ h)) (by decide +kernel))
theorem gL_isSent_X6_target : GoodIn wsL_isSent (wsV RL 18 RX6 yX6_target wsX6_target) := goodIn_app (goodIn_of _ (by decide +kernel)) ggL_isSent_X6_target
theorem dL_isSent_0 : decode cL_isSent 0 = .ok (.aload_n 0, 1) := by decide +kernel
theorem dL_isSent_1 : decode cL_isSent 1 = .ok (.iload_n 3, 1) := by decide +kernel
theorem dL_isSent_2 : decode cL_isSent 2 = .ok (.invokevirtual 27, 3) := by decide +kernel
theorem dL_isSent_5 : decode cL_isSent 5 = .ok (.aload_n 2, 1) := by decide +kernel
theorem dL_isSent_6 : decode cL_isSent 6 = .ok (.iload_n 3, 1) := by decide +kernel
theorem dL_isSent_7 : decode cL_isSent 7 = .ok (.iaload, 1) := by decide +kernel
theorem dL_isSent_8 : decode cL_isSent 8 = .ok (.if_icmp .gt 7, 3) := by decide +kernel
theorem dL_isSent_11 : decode cL_isSent 11 = .ok (.iconst 1, 1) := by decide +kernel
theorem dL_isSent_12 : decode cL_isSent 12 = .ok (.goto 4, 3) := by decide +kernel
theorem dL_isSent_15 : decode cL_isSent 15 = .ok (.iconst 0, 1) := by decide +kernel
theorem dL_isSent_16 : decode cL_isSent 16 = .ok (.istore 4, 2) := by decide +kernel
theorem dL_isSent_18 : decode cL_isSent 18 = .ok (.iconst 0, 1) := by decide +kernel
theorem dL_isSent_19 : decode cL_isSent 19 = .ok (.istore 5, 2) := by decide +kernel
theorem dL_isSent_21 : decode cL_isSent 21 = .ok (.iload 5, 2) := by decide +kernel
theorem dL_isSent_23 : decode cL_isSent 23 = .ok (.bipush 6, 2) := by decide +kernel
theorem dL_isSent_25 : decode cL_isSent 25 = .ok (.if_icmp .ge 51, 3) := by decide +kernel
theorem dL_isSent_28 : decode cL_isSent 28 = .ok (.iload 4, 2) := by decide +kernel
theorem dL_isSent_30 : decode cL_isSent 30 = .ok (.ifCond .eq 46, 3) := by decide +kernel
theorem dL_isSent_33 : decode cL_isSent 33 = .ok (.aload_n 1, 1) := by decide +kernel
theorem dL_isSent_34 : decode cL_isSent 34 = .ok (.iload 5, 2) := by decide +kernel
theorem dL_isSent_36 : decode cL_isSent 36 = .ok (.iaload, 1) := by decide +kernel
theorem dL_isSent_37 : decode cL_isSent 37 = .ok (.ifCond .eq 26, 3) := by decide +kernel
theorem dL_isSent_40 : decode cL_isSent 40 = .ok (.iload 5, 2) := by decide +kernel
theorem dL_isSent_42 : decode cL_isSent 42 = .ok (.iload_n 3, 1) := by decide +kernel
theorem dL_isSent_43 : decode cL_isSent 43 = .ok (.if_icmp .eq 20, 3) := by decide +kernel
theorem dL_isSent_46 : decode cL_isSent 46 = .ok (.aload_n 0, 1) := by decide +kernel
theorem dL_isSent_47 : decode cL_isSent 47 = .ok (.iload_n 3, 1) := by decide +kernel
theorem dL_isSent_48 : decode cL_isSent 48 = .ok (.iload 5, 2) := by decide +kernel
theorem dL_isSent_50 : decode cL_isSent 50 = .ok (.invokevirtual 24, 3) := by decide +kernel
theorem dL_isSent_53 : decode cL_isSent 53 = .ok (.aload_n 0, 1) := by decide +kernel
theorem dL_isSent_54 : decode cL_isSent 54 = .ok (.iload_n 3, 1) := by decide +kernel
theorem dL_isSent_55 : decode cL_isSent 55 = .ok (.iload 5, 2) := by decide +kernel
theorem dL_isSent_57 : decode cL_isSent 57 = .ok (.invokevirtual 18, 3) := by decide +kernel
theorem dL_isSent_60 : decode cL_isSent 60 = .ok (.if_icmp .gt 7, 3) := by decide +kernel
theorem dL_isSent_63 : decode cL_isSent 63 = .ok (.iconst 1, 1) := by decide +kernel
theorem dL_isSent_64 : decode cL_isSent 64 = .ok (.goto 4, 3) := by decide +kernel
theorem dL_isSent_67 : decode cL_isSent 67 = .ok (.iconst 0, 1) := by decide +kernel
theorem dL_isSent_68 : decode cL_isSent 68 = .ok (.istore 4, 2) := by decide +kernel
theorem dL_isSent_70 : decode cL_isSent 70 = .ok (.iinc 5 1, 3) := by decide +kernel
theorem dL_isSent_73 : decode cL_isSent 73 = .ok (.goto (-52), 3) := by decide +kernel
theorem dL_isSent_76 : decode cL_isSent 76 = .ok (.iload 4, 2) := by decide +kernel
theorem dL_isSent_78 : decode cL_isSent 78 = .ok (.ireturn, 1) := by decide +kernel
