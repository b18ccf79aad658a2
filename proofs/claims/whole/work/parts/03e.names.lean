theorem dX7_init_172 : decode cX7_init 172 = .ok (.putfield 71, 3) := by decide +kernel
theorem dX7_init_175 : decode cX7_init 175 = .ok (.aload_n 0, 1) := by decide +kernel
theorem dX7_init_176 : decode cX7_init 176 = .ok (.bipush 60, 2) := by decide +kernel
theorem dX7_init_178 : decode cX7_init 178 = .ok (.newarray .int, 2) := by decide +kernel
theorem dX7_init_180 : decode cX7_init 180 = .ok (.putfield 74, 3) := by decide +kernel
theorem dX7_init_183 : decode cX7_init 183 = .ok (.aload_n 0, 1) := by decide +kernel
theorem dX7_init_184 : decode cX7_init 184 = .ok (.sipush 300, 3) := by decide +kernel
theorem dX7_init_187 : decode cX7_init 187 = .ok (.newarray .int, 2) := by decide +kernel
theorem dX7_init_189 : decode cX7_init 189 = .ok (.putfield 77, 3) := by decide +kernel
theorem dX7_init_192 : decode cX7_init 192 = .ok (.aload_n 0, 1) := by decide +kernel
theorem dX7_init_193 : decode cX7_init 193 = .ok (.bipush 60, 2) := by decide +kernel
theorem dX7_init_195 : decode cX7_init 195 = .ok (.newarray .int, 2) := by decide +kernel
theorem dX7_init_197 : decode cX7_init 197 = .ok (.putfield 80, 3) := by decide +kernel
theorem dX7_init_200 : decode cX7_init 200 = .ok (.aload_n 0, 1) := by decide +kernel
theorem dX7_init_201 : decode cX7_init 201 = .ok (.bipush 60, 2) := by decide +kernel
theorem dX7_init_203 : decode cX7_init 203 = .ok (.newarray .int, 2) := by decide +kernel
theorem dX7_init_205 : decode cX7_init 205 = .ok (.putfield 83, 3) := by decide +kernel
theorem dX7_init_208 : decode cX7_init 208 = .ok (.aload_n 0, 1) := by decide +kernel
theorem dX7_init_209 : decode cX7_init 209 = .ok (.bipush 6, 2) := by decide +kernel
theorem dX7_init_211 : decode cX7_init 211 = .ok (.newarray .int, 2) := by decide +kernel
theorem dX7_init_213 : decode cX7_init 213 = .ok (.putfield 86, 3) := by decide +kernel
theorem dX7_init_216 : decode cX7_init 216 = .ok (.aload_n 0, 1) := by decide +kernel
theorem dX7_init_217 : decode cX7_init 217 = .ok (.bipush 7, 2) := by decide +kernel
theorem dX7_init_219 : decode cX7_init 219 = .ok (.newarray .int, 2) := by decide +kernel
theorem dX7_init_221 : decode cX7_init 221 = .ok (.putfield 89, 3) := by decide +kernel
theorem dX7_init_224 : decode cX7_init 224 = .ok (.aload_n 0, 1) := by decide +kernel
theorem dX7_init_225 : decode cX7_init 225 = .ok (.bipush 7, 2) := by decide +kernel
theorem dX7_init_227 : decode cX7_init 227 = .ok (.newarray .int, 2) := by decide +kernel
theorem dX7_init_229 : decode cX7_init 229 = .ok (.putfield 92, 3) := by decide +kernel
theorem dX7_init_232 : decode cX7_init 232 = .ok (.aload_n 0, 1) := by decide +kernel
theorem dX7_init_233 : decode cX7_init 233 = .ok (.bipush 7, 2) := by decide +kernel
theorem dX7_init_235 : decode cX7_init 235 = .ok (.newarray .int, 2) := by decide +kernel
theorem dX7_init_237 : decode cX7_init 237 = .ok (.putfield 95, 3) := by decide +kernel
theorem dX7_init_240 : decode cX7_init 240 = .ok (.aload_n 0, 1) := by decide +kernel
theorem dX7_init_241 : decode cX7_init 241 = .ok (.bipush 12, 2) := by decide +kernel
theorem dX7_init_243 : decode cX7_init 243 = .ok (.newarray .int, 2) := by decide +kernel
theorem dX7_init_245 : decode cX7_init 245 = .ok (.putfield 98, 3) := by decide +kernel
theorem dX7_init_248 : decode cX7_init 248 = .ok (.aload_n 0, 1) := by decide +kernel
theorem dX7_init_249 : decode cX7_init 249 = .ok (.bipush 12, 2) := by decide +kernel
theorem dX7_init_251 : decode cX7_init 251 = .ok (.newarray .int, 2) := by decide +kernel
theorem dX7_init_253 : decode cX7_init 253 = .ok (.putfield 101, 3) := by decide +kernel
theorem dX7_init_256 : decode cX7_init 256 = .ok (.aload_n 0, 1) := by decide +kernel
theorem dX7_init_257 : decode cX7_init 257 = .ok (.bipush 12, 2) := by decide +kernel
theorem dX7_init_259 : decode cX7_init 259 = .ok (.newarray .int, 2) := by decide +kernel
theorem dX7_init_261 : decode cX7_init 261 = .ok (.putfield 104, 3) := by decide +kernel
theorem dX7_init_264 : decode cX7_init 264 = .ok (.aload_n 0, 1) := by decide +kernel
theorem dX7_init_265 : decode cX7_init 265 = .ok (.bipush 13, 2) := by decide +kernel
theorem dX7_init_267 : decode cX7_init 267 = .ok (.newarray .int, 2) := by decide +kernel
theorem dX7_init_269 : decode cX7_init 269 = .ok (.putfield 107, 3) := by decide +kernel
theorem dX7_init_272 : decode cX7_init 272 = .ok (.aload_n 0, 1) := by decide +kernel
theorem dX7_init_273 : decode cX7_init 273 = .ok (.bipush 35, 2) := by decide +kernel
theorem dX7_init_275 : decode cX7_init 275 = .ok (.newarray .int, 2) := by decide +kernel
theorem dX7_init_277 : decode cX7_init 277 = .ok (.putfield 110, 3) := by decide +kernel
theorem dX7_init_280 : decode cX7_init 280 = .ok (.aload_n 0, 1) := by decide +kernel
theorem dX7_init_281 : decode cX7_init 281 = .ok (.bipush 20, 2) := by decide +kernel
theorem dX7_init_283 : decode cX7_init 283 = .ok (.newarray .int, 2) := by decide +kernel
theorem dX7_init_285 : decode cX7_init 285 = .ok (.putfield 113, 3) := by decide +kernel
theorem dX7_init_288 : decode cX7_init 288 = .ok (.aload_n 0, 1) := by decide +kernel
theorem dX7_init_289 : decode cX7_init 289 = .ok (.iconst 4, 1) := by decide +kernel
theorem dX7_init_290 : decode cX7_init 290 = .ok (.newarray .int, 2) := by decide +kernel
theorem dX7_init_292 : decode cX7_init 292 = .ok (.putfield 116, 3) := by decide +kernel
theorem dX7_init_295 : decode cX7_init 295 = .ok (.aload_n 0, 1) := by decide +kernel
theorem dX7_init_296 : decode cX7_init 296 = .ok (.bipush (-4), 2) := by decide +kernel
theorem dX7_init_298 : decode cX7_init 298 = .ok (.putfield 119, 3) := by decide +kernel
theorem dX7_init_301 : decode cX7_init 301 = .ok (.return_, 1) := by decide +kernel
theorem dX7_thrown_0 : decode cX7_thrown 0 = .ok (.aload_n 0, 1) := by decide +kernel
theorem dX7_thrown_1 : decode cX7_thrown 1 = .ok (.getfield 122, 3) := by decide +kernel
theorem dX7_thrown_4 : decode cX7_thrown 4 = .ok (.ireturn, 1) := by decide +kernel
theorem dX7_isIn_0 : decode cX7_isIn 0 = .ok (.iload_n 0, 1) := by decide +kernel
theorem dX7_isIn_1 : decode cX7_isIn 1 = .ok (.iload_n 1, 1) := by decide +kernel
theorem dX7_isIn_2 : decode cX7_isIn 2 = .ok (.if_icmp .lt 12, 3) := by decide +kernel
theorem dX7_isIn_5 : decode cX7_isIn 5 = .ok (.iload_n 0, 1) := by decide +kernel
theorem dX7_isIn_6 : decode cX7_isIn 6 = .ok (.iload_n 2, 1) := by decide +kernel
theorem dX7_isIn_7 : decode cX7_isIn 7 = .ok (.if_icmp .gt 7, 3) := by decide +kernel
theorem dX7_isIn_10 : decode cX7_isIn 10 = .ok (.iconst 1, 1) := by decide +kernel
theorem dX7_isIn_11 : decode cX7_isIn 11 = .ok (.goto 4, 3) := by decide +kernel
theorem dX7_isIn_14 : decode cX7_isIn 14 = .ok (.iconst 0, 1) := by decide +kernel
theorem dX7_isIn_15 : decode cX7_isIn 15 = .ok (.ireturn, 1) := by decide +kernel
set_option maxRecDepth 20000 in
theorem ggX7_sign_X7_isIn : GoodIn wsX7_sign wsX7_isIn := goodIn_r _ [7] (by decide +kernel) (by decide +kernel)
set_option maxRecDepth 20000 in
theorem gX7_sign_X7_isIn : GoodIn wsX7_sign (va_wsS RX7 125 yX7_isIn wsX7_isIn) := goodIn_app (goodIn_of _ (by decide +kernel)) ggX7_sign_X7_isIn
theorem dX7_sign_0 : decode cX7_sign 0 = .ok (.aload_n 0, 1) := by decide +kernel
theorem dX7_sign_1 : decode cX7_sign 1 = .ok (.iconst 0, 1) := by decide +kernel
theorem dX7_sign_2 : decode cX7_sign 2 = .ok (.putfield 122, 3) := by decide +kernel
theorem dX7_sign_5 : decode cX7_sign 5 = .ok (.iload_n 1, 1) := by decide +kernel
theorem dX7_sign_6 : decode cX7_sign 6 = .ok (.iconst 0, 1) := by decide +kernel
theorem dX7_sign_7 : decode cX7_sign 7 = .ok (.sipush 255, 3) := by decide +kernel
theorem dX7_sign_10 : decode cX7_sign 10 = .ok (.invokestatic 125, 3) := by decide +kernel
theorem dX7_sign_13 : decode cX7_sign 13 = .ok (.ifCond .ne 6, 3) := by decide +kernel
theorem dX7_sign_16 : decode cX7_sign 16 = .ok (.bipush (-9), 2) := by decide +kernel
theorem dX7_sign_18 : decode cX7_sign 18 = .ok (.ireturn, 1) := by decide +kernel
theorem dX7_sign_19 : decode cX7_sign 19 = .ok (.aload_n 0, 1) := by decide +kernel
theorem dX7_sign_20 : decode cX7_sign 20 = .ok (.getfield 129, 3) := by decide +kernel
theorem dX7_sign_23 : decode cX7_sign 23 = .ok (.bipush 80, 2) := by decide +kernel
theorem dX7_sign_25 : decode cX7_sign 25 = .ok (.if_icmp .ne 6, 3) := by decide +kernel
theorem dX7_sign_28 : decode cX7_sign 28 = .ok (.bipush (-3), 2) := by decide +kernel
theorem dX7_sign_30 : decode cX7_sign 30 = .ok (.ireturn, 1) := by decide +kernel
theorem dX7_sign_31 : decode cX7_sign 31 = .ok (.aload_n 0, 1) := by decide +kernel
theorem dX7_sign_32 : decode cX7_sign 32 = .ok (.getfield 7, 3) := by decide +kernel
theorem dX7_sign_35 : decode cX7_sign 35 = .ok (.aload_n 0, 1) := by decide +kernel
theorem dX7_sign_36 : decode cX7_sign 36 = .ok (.getfield 129, 3) := by decide +kernel
theorem dX7_sign_39 : decode cX7_sign 39 = .ok (.iload_n 1, 1) := by decide +kernel
theorem dX7_sign_40 : decode cX7_sign 40 = .ok (.iastore, 1) := by decide +kernel
theorem dX7_sign_41 : decode cX7_sign 41 = .ok (.aload_n 0, 1) := by decide +kernel
theorem dX7_sign_42 : decode cX7_sign 42 = .ok (.dup, 1) := by decide +kernel
theorem dX7_sign_43 : decode cX7_sign 43 = .ok (.getfield 129, 3) := by decide +kernel
theorem dX7_sign_46 : decode cX7_sign 46 = .ok (.iconst 1, 1) := by decide +kernel
theorem dX7_sign_47 : decode cX7_sign 47 = .ok (.iadd, 1) := by decide +kernel
theorem dX7_sign_48 : decode cX7_sign 48 = .ok (.putfield 129, 3) := by decide +kernel
theorem dX7_sign_51 : decode cX7_sign 51 = .ok (.aload_n 0, 1) := by decide +kernel
theorem dX7_sign_52 : decode cX7_sign 52 = .ok (.getfield 129, 3) := by decide +kernel
theorem dX7_sign_55 : decode cX7_sign 55 = .ok (.ireturn, 1) := by decide +kernel
theorem dX7_mayCome_0 : decode cX7_mayCome 0 = .ok (.iload_n 2, 1) := by decide +kernel
theorem dX7_mayCome_1 : decode cX7_mayCome 1 = .ok (.ifCond .ne 18, 3) := by decide +kernel
theorem dX7_mayCome_4 : decode cX7_mayCome 4 = .ok (.aload_n 0, 1) := by decide +kernel
theorem dX7_mayCome_5 : decode cX7_mayCome 5 = .ok (.getfield 132, 3) := by decide +kernel
theorem dX7_mayCome_8 : decode cX7_mayCome 8 = .ok (.bipush 12, 2) := by decide +kernel
theorem dX7_mayCome_10 : decode cX7_mayCome 10 = .ok (.if_icmp .ge 7, 3) := by decide +kernel
theorem dX7_mayCome_13 : decode cX7_mayCome 13 = .ok (.iconst 1, 1) := by decide +kernel
theorem dX7_mayCome_14 : decode cX7_mayCome 14 = .ok (.goto 4, 3) := by decide +kernel
theorem dX7_mayCome_17 : decode cX7_mayCome 17 = .ok (.iconst 0, 1) := by decide +kernel
theorem dX7_mayCome_18 : decode cX7_mayCome 18 = .ok (.ireturn, 1) := by decide +kernel
theorem dX7_mayCome_19 : decode cX7_mayCome 19 = .ok (.aload_n 0, 1) := by decide +kernel
theorem dX7_mayCome_20 : decode cX7_mayCome 20 = .ok (.getfield 132, 3) := by decide +kernel
theorem dX7_mayCome_23 : decode cX7_mayCome 23 = .ok (.iconst 1, 1) := by decide +kernel
theorem dX7_mayCome_24 : decode cX7_mayCome 24 = .ok (.isub, 1) := by decide +kernel
theorem dX7_mayCome_25 : decode cX7_mayCome 25 = .ok (.istore_n 3, 1) := by decide +kernel
theorem dX7_mayCome_26 : decode cX7_mayCome 26 = .ok (.iload_n 2, 1) := by decide +kernel
theorem dX7_mayCome_27 : decode cX7_mayCome 27 = .ok (.iconst 5, 1) := by decide +kernel
theorem dX7_mayCome_28 : decode cX7_mayCome 28 = .ok (.if_icmp .ge 20, 3) := by decide +kernel
theorem dX7_mayCome_31 : decode cX7_mayCome 31 = .ok (.aload_n 0, 1) := by decide +kernel
theorem dX7_mayCome_32 : decode cX7_mayCome 32 = .ok (.getfield 34, 3) := by decide +kernel
theorem dX7_mayCome_35 : decode cX7_mayCome 35 = .ok (.iload_n 3, 1) := by decide +kernel
theorem dX7_mayCome_36 : decode cX7_mayCome 36 = .ok (.iaload, 1) := by decide +kernel
theorem dX7_mayCome_37 : decode cX7_mayCome 37 = .ok (.iload_n 1, 1) := by decide +kernel
theorem dX7_mayCome_38 : decode cX7_mayCome 38 = .ok (.ishr, 1) := by decide +kernel
theorem dX7_mayCome_39 : decode cX7_mayCome 39 = .ok (.iconst 1, 1) := by decide +kernel
theorem dX7_mayCome_40 : decode cX7_mayCome 40 = .ok (.iand, 1) := by decide +kernel
theorem dX7_mayCome_41 : decode cX7_mayCome 41 = .ok (.ifCond .ne 7, 3) := by decide +kernel
theorem dX7_mayCome_44 : decode cX7_mayCome 44 = .ok (.iconst 1, 1) := by decide +kernel
theorem dX7_mayCome_45 : decode cX7_mayCome 45 = .ok (.goto 4, 3) := by decide +kernel
theorem dX7_mayCome_48 : decode cX7_mayCome 48 = .ok (.iconst 0, 1) := by decide +kernel
theorem dX7_mayCome_49 : decode cX7_mayCome 49 = .ok (.istore 4, 2) := by decide +kernel
theorem dX7_mayCome_51 : decode cX7_mayCome 51 = .ok (.iconst 0, 1) := by decide +kernel
theorem dX7_mayCome_52 : decode cX7_mayCome 52 = .ok (.istore 5, 2) := by decide +kernel
theorem dX7_mayCome_54 : decode cX7_mayCome 54 = .ok (.iload 5, 2) := by decide +kernel
theorem dX7_mayCome_56 : decode cX7_mayCome 56 = .ok (.iload_n 3, 1) := by decide +kernel
theorem dX7_mayCome_57 : decode cX7_mayCome 57 = .ok (.if_icmp .ge 52, 3) := by decide +kernel
theorem dX7_mayCome_60 : decode cX7_mayCome 60 = .ok (.iload 4, 2) := by decide +kernel
theorem dX7_mayCome_62 : decode cX7_mayCome 62 = .ok (.ifCond .eq 47, 3) := by decide +kernel
theorem dX7_mayCome_65 : decode cX7_mayCome 65 = .ok (.aload_n 0, 1) := by decide +kernel
theorem dX7_mayCome_66 : decode cX7_mayCome 66 = .ok (.getfield 34, 3) := by decide +kernel
theorem dX7_mayCome_69 : decode cX7_mayCome 69 = .ok (.iload 5, 2) := by decide +kernel
theorem dX7_mayCome_71 : decode cX7_mayCome 71 = .ok (.iaload, 1) := by decide +kernel
theorem dX7_mayCome_72 : decode cX7_mayCome 72 = .ok (.iload_n 1, 1) := by decide +kernel
theorem dX7_mayCome_73 : decode cX7_mayCome 73 = .ok (.ishr, 1) := by decide +kernel
theorem dX7_mayCome_74 : decode cX7_mayCome 74 = .ok (.iconst 1, 1) := by decide +kernel
theorem dX7_mayCome_75 : decode cX7_mayCome 75 = .ok (.iand, 1) := by decide +kernel
theorem dX7_mayCome_76 : decode cX7_mayCome 76 = .ok (.ifCond .eq 20, 3) := by decide +kernel
theorem dX7_mayCome_79 : decode cX7_mayCome 79 = .ok (.aload_n 0, 1) := by decide +kernel
theorem dX7_mayCome_80 : decode cX7_mayCome 80 = .ok (.getfield 34, 3) := by decide +kernel
theorem dX7_mayCome_83 : decode cX7_mayCome 83 = .ok (.iload 5, 2) := by decide +kernel
theorem dX7_mayCome_85 : decode cX7_mayCome 85 = .ok (.iaload, 1) := by decide +kernel
theorem dX7_mayCome_86 : decode cX7_mayCome 86 = .ok (.aload_n 0, 1) := by decide +kernel
theorem dX7_mayCome_87 : decode cX7_mayCome 87 = .ok (.getfield 34, 3) := by decide +kernel
theorem dX7_mayCome_90 : decode cX7_mayCome 90 = .ok (.iload_n 3, 1) := by decide +kernel
theorem dX7_mayCome_91 : decode cX7_mayCome 91 = .ok (.iaload, 1) := by decide +kernel
theorem dX7_mayCome_92 : decode cX7_mayCome 92 = .ok (.iand, 1) := by decide +kernel
theorem dX7_mayCome_93 : decode cX7_mayCome 93 = .ok (.ifCond .ne 7, 3) := by decide +kernel
theorem dX7_mayCome_96 : decode cX7_mayCome 96 = .ok (.iconst 1, 1) := by decide +kernel
theorem dX7_mayCome_97 : decode cX7_mayCome 97 = .ok (.goto 4, 3) := by decide +kernel
theorem dX7_mayCome_100 : decode cX7_mayCome 100 = .ok (.iconst 0, 1) := by decide +kernel
theorem dX7_mayCome_101 : decode cX7_mayCome 101 = .ok (.istore 4, 2) := by decide +kernel
theorem dX7_mayCome_103 : decode cX7_mayCome 103 = .ok (.iinc 5 1, 3) := by decide +kernel
theorem dX7_mayCome_106 : decode cX7_mayCome 106 = .ok (.goto (-52), 3) := by decide +kernel
theorem dX7_mayCome_109 : decode cX7_mayCome 109 = .ok (.iload 4, 2) := by decide +kernel
theorem dX7_mayCome_111 : decode cX7_mayCome 111 = .ok (.ireturn, 1) := by decide +kernel
set_option maxRecDepth 20000 in
theorem ggX7_readWords_X7_isIn : GoodIn wsX7_readWords wsX7_isIn := goodIn_r _ [10] (by decide +kernel) (by decide +kernel)
set_option maxRecDepth 20000 in
theorem gX7_readWords_X7_isIn : GoodIn wsX7_readWords (va_wsS RX7 125 yX7_isIn wsX7_isIn) := goodIn_app (goodIn_of _ (by decide +kernel)) ggX7_readWords_X7_isIn
set_option maxRecDepth 20000 in
theorem ggX7_readWords_X7_mayCome : GoodIn wsX7_readWords wsX7_mayCome := goodIn_r _ [14, 1, 4, 15, 16, 17, 18, 19, 20, 21, 22, 23, 24, 25, 26, 27, 28, 29, 30, 31, 32, 33, 34, 35, 36, 37, 38, 39, 40, 41, 42, 43, 44, 45, 46, 47, 48, 49, 50, 51, 52, 53, 54, 55, 56, 57, 58, 59, 60, 61, 62, 63, 64, 65, 66, 67] (by decide +kernel) (by decide +kernel)
set_option maxRecDepth 20000 in
theorem gX7_readWords_X7_mayCome : GoodIn wsX7_readWords (wsV RX7 135 RX7 yX7_mayCome wsX7_mayCome) := goodIn_app (goodIn_of _ (by decide +kernel)) ggX7_readWords_X7_mayCome
theorem dX7_readWords_0 : decode cX7_readWords 0 = .ok (.aload_n 0, 1) := by decide +kernel
theorem dX7_readWords_1 : decode cX7_readWords 1 = .ok (.iconst 0, 1) := by decide +kernel
theorem dX7_readWords_2 : decode cX7_readWords 2 = .ok (.putfield 132, 3) := by decide +kernel
theorem dX7_readWords_5 : decode cX7_readWords 5 = .ok (.iconst 0, 1) := by decide +kernel
theorem dX7_readWords_6 : decode cX7_readWords 6 = .ok (.istore_n 1, 1) := by decide +kernel
theorem dX7_readWords_7 : decode cX7_readWords 7 = .ok (.iconst 0, 1) := by decide +kernel
theorem dX7_readWords_8 : decode cX7_readWords 8 = .ok (.istore_n 2, 1) := by decide +kernel
theorem dX7_readWords_9 : decode cX7_readWords 9 = .ok (.iload_n 2, 1) := by decide +kernel
theorem dX7_readWords_10 : decode cX7_readWords 10 = .ok (.aload_n 0, 1) := by decide +kernel
theorem dX7_readWords_11 : decode cX7_readWords 11 = .ok (.getfield 129, 3) := by decide +kernel
theorem dX7_readWords_14 : decode cX7_readWords 14 = .ok (.if_icmp .ge 140, 3) := by decide +kernel
theorem dX7_readWords_17 : decode cX7_readWords 17 = .ok (.aload_n 0, 1) := by decide +kernel
theorem dX7_readWords_18 : decode cX7_readWords 18 = .ok (.getfield 7, 3) := by decide +kernel
theorem dX7_readWords_21 : decode cX7_readWords 21 = .ok (.iload_n 2, 1) := by decide +kernel
theorem dX7_readWords_22 : decode cX7_readWords 22 = .ok (.iaload, 1) := by decide +kernel
theorem dX7_readWords_23 : decode cX7_readWords 23 = .ok (.bipush 97, 2) := by decide +kernel
theorem dX7_readWords_25 : decode cX7_readWords 25 = .ok (.isub, 1) := by decide +kernel
theorem dX7_readWords_26 : decode cX7_readWords 26 = .ok (.istore_n 3, 1) := by decide +kernel
theorem dX7_readWords_27 : decode cX7_readWords 27 = .ok (.aload_n 0, 1) := by decide +kernel
theorem dX7_readWords_28 : decode cX7_readWords 28 = .ok (.getfield 7, 3) := by decide +kernel
theorem dX7_readWords_31 : decode cX7_readWords 31 = .ok (.iload_n 2, 1) := by decide +kernel
theorem dX7_readWords_32 : decode cX7_readWords 32 = .ok (.iaload, 1) := by decide +kernel
theorem dX7_readWords_33 : decode cX7_readWords 33 = .ok (.bipush 32, 2) := by decide +kernel
theorem dX7_readWords_35 : decode cX7_readWords 35 = .ok (.if_icmp .ne 20, 3) := by decide +kernel
theorem dX7_readWords_38 : decode cX7_readWords 38 = .ok (.iload_n 1, 1) := by decide +kernel
theorem dX7_readWords_39 : decode cX7_readWords 39 = .ok (.iconst 1, 1) := by decide +kernel
theorem dX7_readWords_40 : decode cX7_readWords 40 = .ok (.if_icmp .eq 8, 3) := by decide +kernel
theorem dX7_readWords_43 : decode cX7_readWords 43 = .ok (.iload_n 1, 1) := by decide +kernel
theorem dX7_readWords_44 : decode cX7_readWords 44 = .ok (.iconst 2, 1) := by decide +kernel
theorem dX7_readWords_45 : decode cX7_readWords 45 = .ok (.if_icmp .ne 5, 3) := by decide +kernel
theorem dX7_readWords_48 : decode cX7_readWords 48 = .ok (.iload_n 2, 1) := by decide +kernel
theorem dX7_readWords_49 : decode cX7_readWords 49 = .ok (.ireturn, 1) := by decide +kernel
theorem dX7_readWords_50 : decode cX7_readWords 50 = .ok (.iconst 0, 1) := by decide +kernel
theorem dX7_readWords_51 : decode cX7_readWords 51 = .ok (.istore_n 1, 1) := by decide +kernel
theorem dX7_readWords_52 : decode cX7_readWords 52 = .ok (.goto 96, 3) := by decide +kernel
theorem dX7_readWords_55 : decode cX7_readWords 55 = .ok (.iload_n 3, 1) := by decide +kernel
theorem dX7_readWords_56 : decode cX7_readWords 56 = .ok (.iconst 0, 1) := by decide +kernel
theorem dX7_readWords_57 : decode cX7_readWords 57 = .ok (.bipush 9, 2) := by decide +kernel
theorem dX7_readWords_59 : decode cX7_readWords 59 = .ok (.invokestatic 125, 3) := by decide +kernel
theorem dX7_readWords_62 : decode cX7_readWords 62 = .ok (.ifCond .eq 12, 3) := by decide +kernel
theorem dX7_readWords_65 : decode cX7_readWords 65 = .ok (.aload_n 0, 1) := by decide +kernel
theorem dX7_readWords_66 : decode cX7_readWords 66 = .ok (.iload_n 3, 1) := by decide +kernel
theorem dX7_readWords_67 : decode cX7_readWords 67 = .ok (.iload_n 1, 1) := by decide +kernel
theorem dX7_readWords_68 : decode cX7_readWords 68 = .ok (.invokevirtual 135, 3) := by decide +kernel
theorem dX7_readWords_71 : decode cX7_readWords 71 = .ok (.ifCond .ne 5, 3) := by decide +kernel
theorem dX7_readWords_74 : decode cX7_readWords 74 = .ok (.iload_n 2, 1) := by decide +kernel
theorem dX7_readWords_75 : decode cX7_readWords 75 = .ok (.ireturn, 1) := by decide +kernel
theorem dX7_readWords_76 : decode cX7_readWords 76 = .ok (.iload_n 1, 1) := by decide +kernel
theorem dX7_readWords_77 : decode cX7_readWords 77 = .ok (.ifCond .ne 23, 3) := by decide +kernel
theorem dX7_readWords_80 : decode cX7_readWords 80 = .ok (.aload_n 0, 1) := by decide +kernel
theorem dX7_readWords_81 : decode cX7_readWords 81 = .ok (.getfield 34, 3) := by decide +kernel
theorem dX7_readWords_84 : decode cX7_readWords 84 = .ok (.aload_n 0, 1) := by decide +kernel
theorem dX7_readWords_85 : decode cX7_readWords 85 = .ok (.getfield 132, 3) := by decide +kernel
theorem dX7_readWords_88 : decode cX7_readWords 88 = .ok (.iconst 0, 1) := by decide +kernel
theorem dX7_readWords_89 : decode cX7_readWords 89 = .ok (.iastore, 1) := by decide +kernel
theorem dX7_readWords_90 : decode cX7_readWords 90 = .ok (.aload_n 0, 1) := by decide +kernel
theorem dX7_readWords_91 : decode cX7_readWords 91 = .ok (.dup, 1) := by decide +kernel
theorem dX7_readWords_92 : decode cX7_readWords 92 = .ok (.getfield 132, 3) := by decide +kernel
theorem dX7_readWords_95 : decode cX7_readWords 95 = .ok (.iconst 1, 1) := by decide +kernel
theorem dX7_readWords_96 : decode cX7_readWords 96 = .ok (.iadd, 1) := by decide +kernel
theorem dX7_readWords_97 : decode cX7_readWords 97 = .ok (.putfield 132, 3) := by decide +kernel
theorem dX7_readWords_100 : decode cX7_readWords 100 = .ok (.aload_n 0, 1) := by decide +kernel
theorem dX7_readWords_101 : decode cX7_readWords 101 = .ok (.getfield 31, 3) := by decide +kernel
theorem dX7_readWords_104 : decode cX7_readWords 104 = .ok (.iconst 5, 1) := by decide +kernel
theorem dX7_readWords_105 : decode cX7_readWords 105 = .ok (.aload_n 0, 1) := by decide +kernel
theorem dX7_readWords_106 : decode cX7_readWords 106 = .ok (.getfield 132, 3) := by decide +kernel
theorem dX7_readWords_109 : decode cX7_readWords 109 = .ok (.iconst 1, 1) := by decide +kernel
theorem dX7_readWords_110 : decode cX7_readWords 110 = .ok (.isub, 1) := by decide +kernel
theorem dX7_readWords_111 : decode cX7_readWords 111 = .ok (.imul, 1) := by decide +kernel
theorem dX7_readWords_112 : decode cX7_readWords 112 = .ok (.iload_n 1, 1) := by decide +kernel
theorem dX7_readWords_113 : decode cX7_readWords 113 = .ok (.iadd, 1) := by decide +kernel
theorem dX7_readWords_114 : decode cX7_readWords 114 = .ok (.iload_n 3, 1) := by decide +kernel
theorem dX7_readWords_115 : decode cX7_readWords 115 = .ok (.iastore, 1) := by decide +kernel
theorem dX7_readWords_116 : decode cX7_readWords 116 = .ok (.aload_n 0, 1) := by decide +kernel
theorem dX7_readWords_117 : decode cX7_readWords 117 = .ok (.getfield 34, 3) := by decide +kernel
theorem dX7_readWords_120 : decode cX7_readWords 120 = .ok (.aload_n 0, 1) := by decide +kernel
theorem dX7_readWords_121 : decode cX7_readWords 121 = .ok (.getfield 132, 3) := by decide +kernel
theorem dX7_readWords_124 : decode cX7_readWords 124 = .ok (.iconst 1, 1) := by decide +kernel
theorem dX7_readWords_125 : decode cX7_readWords 125 = .ok (.isub, 1) := by decide +kernel
theorem dX7_readWords_126 : decode cX7_readWords 126 = .ok (.dup2, 1) := by decide +kernel
theorem dX7_readWords_127 : decode cX7_readWords 127 = .ok (.iaload, 1) := by decide +kernel
theorem dX7_readWords_128 : decode cX7_readWords 128 = .ok (.iconst 1, 1) := by decide +kernel
theorem dX7_readWords_129 : decode cX7_readWords 129 = .ok (.iload_n 3, 1) := by decide +kernel
theorem dX7_readWords_130 : decode cX7_readWords 130 = .ok (.ishl, 1) := by decide +kernel
theorem dX7_readWords_131 : decode cX7_readWords 131 = .ok (.ior, 1) := by decide +kernel
theorem dX7_readWords_132 : decode cX7_readWords 132 = .ok (.iastore, 1) := by decide +kernel
theorem dX7_readWords_133 : decode cX7_readWords 133 = .ok (.iinc 1 1, 3) := by decide +kernel
theorem dX7_readWords_136 : decode cX7_readWords 136 = .ok (.aload_n 0, 1) := by decide +kernel
theorem dX7_readWords_137 : decode cX7_readWords 137 = .ok (.getfield 28, 3) := by decide +kernel
theorem dX7_readWords_140 : decode cX7_readWords 140 = .ok (.aload_n 0, 1) := by decide +kernel
theorem dX7_readWords_141 : decode cX7_readWords 141 = .ok (.getfield 132, 3) := by decide +kernel
theorem dX7_readWords_144 : decode cX7_readWords 144 = .ok (.iconst 1, 1) := by decide +kernel
theorem dX7_readWords_145 : decode cX7_readWords 145 = .ok (.isub, 1) := by decide +kernel
theorem dX7_readWords_146 : decode cX7_readWords 146 = .ok (.iload_n 1, 1) := by decide +kernel
theorem dX7_readWords_147 : decode cX7_readWords 147 = .ok (.iastore, 1) := by decide +kernel
theorem dX7_readWords_148 : decode cX7_readWords 148 = .ok (.iinc 2 1, 3) := by decide +kernel
theorem dX7_readWords_151 : decode cX7_readWords 151 = .ok (.goto (-142), 3) := by decide +kernel
theorem dX7_readWords_154 : decode cX7_readWords 154 = .ok (.iload_n 1, 1) := by decide +kernel
theorem dX7_readWords_155 : decode cX7_readWords 155 = .ok (.iconst 1, 1) := by decide +kernel
theorem dX7_readWords_156 : decode cX7_readWords 156 = .ok (.if_icmp .eq 15, 3) := by decide +kernel
theorem dX7_readWords_159 : decode cX7_readWords 159 = .ok (.iload_n 1, 1) := by decide +kernel
theorem dX7_readWords_160 : decode cX7_readWords 160 = .ok (.iconst 2, 1) := by decide +kernel
theorem dX7_readWords_161 : decode cX7_readWords 161 = .ok (.if_icmp .eq 10, 3) := by decide +kernel
theorem dX7_readWords_164 : decode cX7_readWords 164 = .ok (.aload_n 0, 1) := by decide +kernel
theorem dX7_readWords_165 : decode cX7_readWords 165 = .ok (.getfield 132, 3) := by decide +kernel
theorem dX7_readWords_168 : decode cX7_readWords 168 = .ok (.ifCond .ne 10, 3) := by decide +kernel
theorem dX7_readWords_171 : decode cX7_readWords 171 = .ok (.aload_n 0, 1) := by decide +kernel
theorem dX7_readWords_172 : decode cX7_readWords 172 = .ok (.getfield 129, 3) := by decide +kernel
theorem dX7_readWords_175 : decode cX7_readWords 175 = .ok (.goto 5, 3) := by decide +kernel
theorem dX7_readWords_178 : decode cX7_readWords 178 = .ok (.bipush (-4), 2) := by decide +kernel
theorem dX7_readWords_180 : decode cX7_readWords 180 = .ok (.ireturn, 1) := by decide +kernel
set_option maxRecDepth 20000 in
theorem ggX7_read_X7_readWords : GoodIn wsX7_read wsX7_readWords := goodIn_r _ [24, 4, 2, 25, 26, 10, 8, 27, 28, 23, 29, 30, 31, 32, 33, 34, 35, 36, 37, 38, 39, 40, 41, 42, 43, 44, 45, 46, 47, 48, 49, 50, 51, 52, 53, 54, 55, 56, 57, 58, 59, 60, 61, 62, 63, 64, 65, 66, 67, 68, 69, 70, 71, 72, 73, 74, 75, 76, 77, 78, 79, 80, 81, 82, 83, 84, 85, 86] (by decide +kernel) (by decide +kernel)
set_option maxRecDepth 20000 in
theorem gX7_read_X7_readWords : GoodIn wsX7_read (wsV RX7 139 RX7 yX7_readWords wsX7_readWords) := goodIn_app (goodIn_of _ (by decide +kernel)) ggX7_read_X7_readWords
theorem dX7_read_0 : decode cX7_read 0 = .ok (.aload_n 0, 1) := by decide +kernel
theorem dX7_read_1 : decode cX7_read 1 = .ok (.iconst 0, 1) := by decide +kernel
theorem dX7_read_2 : decode cX7_read 2 = .ok (.putfield 122, 3) := by decide +kernel
theorem dX7_read_5 : decode cX7_read 5 = .ok (.aload_n 0, 1) := by decide +kernel
theorem dX7_read_6 : decode cX7_read 6 = .ok (.invokevirtual 139, 3) := by decide +kernel
theorem dX7_read_9 : decode cX7_read 9 = .ok (.istore_n 1, 1) := by decide +kernel
theorem dX7_read_10 : decode cX7_read 10 = .ok (.aload_n 0, 1) := by decide +kernel
theorem dX7_read_11 : decode cX7_read 11 = .ok (.iconst 0, 1) := by decide +kernel
theorem dX7_read_12 : decode cX7_read 12 = .ok (.putfield 129, 3) := by decide +kernel
theorem dX7_read_15 : decode cX7_read 15 = .ok (.iload_n 1, 1) := by decide +kernel
theorem dX7_read_16 : decode cX7_read 16 = .ok (.bipush (-4), 2) := by decide +kernel
theorem dX7_read_18 : decode cX7_read 18 = .ok (.if_icmp .eq 8, 3) := by decide +kernel
theorem dX7_read_21 : decode cX7_read 21 = .ok (.bipush (-10), 2) := by decide +kernel
theorem dX7_read_23 : decode cX7_read 23 = .ok (.iload_n 1, 1) := by decide +kernel
theorem dX7_read_24 : decode cX7_read 24 = .ok (.isub, 1) := by decide +kernel
theorem dX7_read_25 : decode cX7_read 25 = .ok (.ireturn, 1) := by decide +kernel
theorem dX7_read_26 : decode cX7_read 26 = .ok (.aload_n 0, 1) := by decide +kernel
theorem dX7_read_27 : decode cX7_read 27 = .ok (.iconst 0, 1) := by decide +kernel
theorem dX7_read_28 : decode cX7_read 28 = .ok (.putfield 143, 3) := by decide +kernel
theorem dX7_read_31 : decode cX7_read 31 = .ok (.aload_n 0, 1) := by decide +kernel
theorem dX7_read_32 : decode cX7_read 32 = .ok (.aload_n 0, 1) := by decide +kernel
theorem dX7_read_33 : decode cX7_read 33 = .ok (.getfield 132, 3) := by decide +kernel
theorem dX7_read_36 : decode cX7_read 36 = .ok (.putfield 146, 3) := by decide +kernel
theorem dX7_read_39 : decode cX7_read 39 = .ok (.iconst 0, 1) := by decide +kernel
theorem dX7_read_40 : decode cX7_read 40 = .ok (.istore_n 2, 1) := by decide +kernel
theorem dX7_read_41 : decode cX7_read 41 = .ok (.iload_n 2, 1) := by decide +kernel
theorem dX7_read_42 : decode cX7_read 42 = .ok (.bipush 10, 2) := by decide +kernel
theorem dX7_read_44 : decode cX7_read 44 = .ok (.if_icmp .ge 17, 3) := by decide +kernel
theorem dX7_read_47 : decode cX7_read 47 = .ok (.aload_n 0, 1) := by decide +kernel
theorem dX7_read_48 : decode cX7_read 48 = .ok (.getfield 16, 3) := by decide +kernel
theorem dX7_read_51 : decode cX7_read 51 = .ok (.iload_n 2, 1) := by decide +kernel
theorem dX7_read_52 : decode cX7_read 52 = .ok (.bipush (-4), 2) := by decide +kernel
theorem dX7_read_54 : decode cX7_read 54 = .ok (.iastore, 1) := by decide +kernel
theorem dX7_read_55 : decode cX7_read 55 = .ok (.iinc 2 1, 3) := by decide +kernel
theorem dX7_read_58 : decode cX7_read 58 = .ok (.goto (-17), 3) := by decide +kernel
theorem dX7_read_61 : decode cX7_read 61 = .ok (.iconst 0, 1) := by decide +kernel
theorem dX7_read_62 : decode cX7_read 62 = .ok (.istore_n 2, 1) := by decide +kernel
theorem dX7_read_63 : decode cX7_read 63 = .ok (.iconst 0, 1) := by decide +kernel
theorem dX7_read_64 : decode cX7_read 64 = .ok (.istore_n 3, 1) := by decide +kernel
theorem dX7_read_65 : decode cX7_read 65 = .ok (.iload_n 3, 1) := by decide +kernel
theorem dX7_read_66 : decode cX7_read 66 = .ok (.aload_n 0, 1) := by decide +kernel
theorem dX7_read_67 : decode cX7_read 67 = .ok (.getfield 132, 3) := by decide +kernel
theorem dX7_read_70 : decode cX7_read 70 = .ok (.if_icmp .ge 147, 3) := by decide +kernel
theorem dX7_read_73 : decode cX7_read 73 = .ok (.aload_n 0, 1) := by decide +kernel
theorem dX7_read_74 : decode cX7_read 74 = .ok (.getfield 19, 3) := by decide +kernel
theorem dX7_read_77 : decode cX7_read 77 = .ok (.iload_n 3, 1) := by decide +kernel
theorem dX7_read_78 : decode cX7_read 78 = .ok (.aload_n 0, 1) := by decide +kernel
theorem dX7_read_79 : decode cX7_read 79 = .ok (.getfield 28, 3) := by decide +kernel
theorem dX7_read_82 : decode cX7_read 82 = .ok (.iload_n 3, 1) := by decide +kernel
theorem dX7_read_83 : decode cX7_read 83 = .ok (.iaload, 1) := by decide +kernel
theorem dX7_read_84 : decode cX7_read 84 = .ok (.iastore, 1) := by decide +kernel
theorem dX7_read_85 : decode cX7_read 85 = .ok (.aload_n 0, 1) := by decide +kernel
theorem dX7_read_86 : decode cX7_read 86 = .ok (.getfield 25, 3) := by decide +kernel
theorem dX7_read_89 : decode cX7_read 89 = .ok (.iload_n 3, 1) := by decide +kernel
theorem dX7_read_90 : decode cX7_read 90 = .ok (.iconst 0, 1) := by decide +kernel
theorem dX7_read_91 : decode cX7_read 91 = .ok (.iastore, 1) := by decide +kernel
theorem dX7_read_92 : decode cX7_read 92 = .ok (.iconst 0, 1) := by decide +kernel
theorem dX7_read_93 : decode cX7_read 93 = .ok (.istore 4, 2) := by decide +kernel
theorem dX7_read_95 : decode cX7_read 95 = .ok (.iload 4, 2) := by decide +kernel
theorem dX7_read_97 : decode cX7_read 97 = .ok (.aload_n 0, 1) := by decide +kernel
theorem dX7_read_98 : decode cX7_read 98 = .ok (.getfield 28, 3) := by decide +kernel
theorem dX7_read_101 : decode cX7_read 101 = .ok (.iload_n 3, 1) := by decide +kernel
theorem dX7_read_102 : decode cX7_read 102 = .ok (.iaload, 1) := by decide +kernel
theorem dX7_read_103 : decode cX7_read 103 = .ok (.if_icmp .ge 108, 3) := by decide +kernel
theorem dX7_read_106 : decode cX7_read 106 = .ok (.aload_n 0, 1) := by decide +kernel
theorem dX7_read_107 : decode cX7_read 107 = .ok (.getfield 31, 3) := by decide +kernel
theorem dX7_read_110 : decode cX7_read 110 = .ok (.iconst 5, 1) := by decide +kernel
theorem dX7_read_111 : decode cX7_read 111 = .ok (.iload_n 3, 1) := by decide +kernel
theorem dX7_read_112 : decode cX7_read 112 = .ok (.imul, 1) := by decide +kernel
theorem dX7_read_113 : decode cX7_read 113 = .ok (.iload 4, 2) := by decide +kernel
theorem dX7_read_115 : decode cX7_read 115 = .ok (.iadd, 1) := by decide +kernel
theorem dX7_read_116 : decode cX7_read 116 = .ok (.iaload, 1) := by decide +kernel
theorem dX7_read_117 : decode cX7_read 117 = .ok (.istore 5, 2) := by decide +kernel
theorem dX7_read_119 : decode cX7_read 119 = .ok (.aload_n 0, 1) := by decide +kernel
theorem dX7_read_120 : decode cX7_read 120 = .ok (.getfield 16, 3) := by decide +kernel
theorem dX7_read_123 : decode cX7_read 123 = .ok (.iload 5, 2) := by decide +kernel
theorem dX7_read_125 : decode cX7_read 125 = .ok (.iaload, 1) := by decide +kernel
theorem dX7_read_126 : decode cX7_read 126 = .ok (.bipush (-4), 2) := by decide +kernel
theorem dX7_read_128 : decode cX7_read 128 = .ok (.if_icmp .ne 38, 3) := by decide +kernel
theorem dX7_read_131 : decode cX7_read 131 = .ok (.aload_n 0, 1) := by decide +kernel
theorem dX7_read_132 : decode cX7_read 132 = .ok (.getfield 16, 3) := by decide +kernel
theorem dX7_read_135 : decode cX7_read 135 = .ok (.iload 5, 2) := by decide +kernel
theorem dX7_read_137 : decode cX7_read 137 = .ok (.aload_n 0, 1) := by decide +kernel
theorem dX7_read_138 : decode cX7_read 138 = .ok (.getfield 143, 3) := by decide +kernel
theorem dX7_read_141 : decode cX7_read 141 = .ok (.iastore, 1) := by decide +kernel
theorem dX7_read_142 : decode cX7_read 142 = .ok (.aload_n 0, 1) := by decide +kernel
theorem dX7_read_143 : decode cX7_read 143 = .ok (.getfield 13, 3) := by decide +kernel
theorem dX7_read_146 : decode cX7_read 146 = .ok (.aload_n 0, 1) := by decide +kernel
theorem dX7_read_147 : decode cX7_read 147 = .ok (.getfield 143, 3) := by decide +kernel
theorem dX7_read_150 : decode cX7_read 150 = .ok (.iload 5, 2) := by decide +kernel
theorem dX7_read_152 : decode cX7_read 152 = .ok (.bipush 97, 2) := by decide +kernel
theorem dX7_read_154 : decode cX7_read 154 = .ok (.iadd, 1) := by decide +kernel
theorem dX7_read_155 : decode cX7_read 155 = .ok (.iastore, 1) := by decide +kernel
theorem dX7_read_156 : decode cX7_read 156 = .ok (.aload_n 0, 1) := by decide +kernel
theorem dX7_read_157 : decode cX7_read 157 = .ok (.dup, 1) := by decide +kernel
theorem dX7_read_158 : decode cX7_read 158 = .ok (.getfield 143, 3) := by decide +kernel
theorem dX7_read_161 : decode cX7_read 161 = .ok (.iconst 1, 1) := by decide +kernel
theorem dX7_read_162 : decode cX7_read 162 = .ok (.iadd, 1) := by decide +kernel
theorem dX7_read_163 : decode cX7_read 163 = .ok (.putfield 143, 3) := by decide +kernel
theorem dX7_read_166 : decode cX7_read 166 = .ok (.aload_n 0, 1) := by decide +kernel
theorem dX7_read_167 : decode cX7_read 167 = .ok (.getfield 22, 3) := by decide +kernel
theorem dX7_read_170 : decode cX7_read 170 = .ok (.iconst 5, 1) := by decide +kernel
theorem dX7_read_171 : decode cX7_read 171 = .ok (.iload_n 3, 1) := by decide +kernel
theorem dX7_read_172 : decode cX7_read 172 = .ok (.imul, 1) := by decide +kernel
theorem dX7_read_173 : decode cX7_read 173 = .ok (.iload 4, 2) := by decide +kernel
theorem dX7_read_175 : decode cX7_read 175 = .ok (.iadd, 1) := by decide +kernel
theorem dX7_read_176 : decode cX7_read 176 = .ok (.aload_n 0, 1) := by decide +kernel
theorem dX7_read_177 : decode cX7_read 177 = .ok (.getfield 16, 3) := by decide +kernel
theorem dX7_read_180 : decode cX7_read 180 = .ok (.iload 5, 2) := by decide +kernel
theorem dX7_read_182 : decode cX7_read 182 = .ok (.iaload, 1) := by decide +kernel
theorem dX7_read_183 : decode cX7_read 183 = .ok (.iastore, 1) := by decide +kernel
theorem dX7_read_184 : decode cX7_read 184 = .ok (.aload_n 0, 1) := by decide +kernel
theorem dX7_read_185 : decode cX7_read 185 = .ok (.getfield 25, 3) := by decide +kernel
theorem dX7_read_188 : decode cX7_read 188 = .ok (.iload_n 3, 1) := by decide +kernel
theorem dX7_read_189 : decode cX7_read 189 = .ok (.dup2, 1) := by decide +kernel
theorem dX7_read_190 : decode cX7_read 190 = .ok (.iaload, 1) := by decide +kernel
theorem dX7_read_191 : decode cX7_read 191 = .ok (.iconst 1, 1) := by decide +kernel
theorem dX7_read_192 : decode cX7_read 192 = .ok (.aload_n 0, 1) := by decide +kernel
theorem dX7_read_193 : decode cX7_read 193 = .ok (.getfield 16, 3) := by decide +kernel
theorem dX7_read_196 : decode cX7_read 196 = .ok (.iload 5, 2) := by decide +kernel
theorem dX7_read_198 : decode cX7_read 198 = .ok (.iaload, 1) := by decide +kernel
theorem dX7_read_199 : decode cX7_read 199 = .ok (.ishl, 1) := by decide +kernel
theorem dX7_read_200 : decode cX7_read 200 = .ok (.ior, 1) := by decide +kernel
theorem dX7_read_201 : decode cX7_read 201 = .ok (.iastore, 1) := by decide +kernel
theorem dX7_read_202 : decode cX7_read 202 = .ok (.iinc 2 1, 3) := by decide +kernel
theorem dX7_read_205 : decode cX7_read 205 = .ok (.iinc 4 1, 3) := by decide +kernel
theorem dX7_read_208 : decode cX7_read 208 = .ok (.goto (-113), 3) := by decide +kernel
theorem dX7_read_211 : decode cX7_read 211 = .ok (.iinc 3 1, 3) := by decide +kernel
theorem dX7_read_214 : decode cX7_read 214 = .ok (.goto (-149), 3) := by decide +kernel
theorem dX7_read_217 : decode cX7_read 217 = .ok (.aload_n 0, 1) := by decide +kernel
theorem dX7_read_218 : decode cX7_read 218 = .ok (.iconst 0, 1) := by decide +kernel
theorem dX7_read_219 : decode cX7_read 219 = .ok (.putfield 149, 3) := by decide +kernel
theorem dX7_read_222 : decode cX7_read 222 = .ok (.aload_n 0, 1) := by decide +kernel
theorem dX7_read_223 : decode cX7_read 223 = .ok (.iconst 0, 1) := by decide +kernel
theorem dX7_read_224 : decode cX7_read 224 = .ok (.putfield 152, 3) := by decide +kernel
theorem dX7_read_227 : decode cX7_read 227 = .ok (.aload_n 0, 1) := by decide +kernel
theorem dX7_read_228 : decode cX7_read 228 = .ok (.iconst 0, 1) := by decide +kernel
theorem dX7_read_229 : decode cX7_read 229 = .ok (.putfield 155, 3) := by decide +kernel
theorem dX7_read_232 : decode cX7_read 232 = .ok (.aload_n 0, 1) := by decide +kernel
theorem dX7_read_233 : decode cX7_read 233 = .ok (.iconst 0, 1) := by decide +kernel
theorem dX7_read_234 : decode cX7_read 234 = .ok (.putfield 158, 3) := by decide +kernel
theorem dX7_read_237 : decode cX7_read 237 = .ok (.aload_n 0, 1) := by decide +kernel
theorem dX7_read_238 : decode cX7_read 238 = .ok (.iconst 0, 1) := by decide +kernel
theorem dX7_read_239 : decode cX7_read 239 = .ok (.putfield 162, 3) := by decide +kernel
theorem dX7_read_242 : decode cX7_read 242 = .ok (.aload_n 0, 1) := by decide +kernel
theorem dX7_read_243 : decode cX7_read 243 = .ok (.iconst 0, 1) := by decide +kernel
theorem dX7_read_244 : decode cX7_read 244 = .ok (.putfield 165, 3) := by decide +kernel
theorem dX7_read_247 : decode cX7_read 247 = .ok (.aload_n 0, 1) := by decide +kernel
theorem dX7_read_248 : decode cX7_read 248 = .ok (.bipush (-4), 2) := by decide +kernel
theorem dX7_read_250 : decode cX7_read 250 = .ok (.putfield 119, 3) := by decide +kernel
theorem dX7_read_253 : decode cX7_read 253 = .ok (.iload_n 2, 1) := by decide +kernel
theorem dX7_read_254 : decode cX7_read 254 = .ok (.ireturn, 1) := by decide +kernel
theorem dX7_count_0 : decode cX7_count 0 = .ok (.aload_n 0, 1) := by decide +kernel
theorem dX7_count_1 : decode cX7_count 1 = .ok (.iconst 0, 1) := by decide +kernel
theorem dX7_count_2 : decode cX7_count 2 = .ok (.putfield 122, 3) := by decide +kernel
theorem dX7_count_5 : decode cX7_count 5 = .ok (.iload_n 1, 1) := by decide +kernel
theorem dX7_count_6 : decode cX7_count 6 = .ok (.tableswitch 86 0 7 #[46, 51, 56, 61, 66, 71, 76, 81], 46) := by decide +kernel
theorem dX7_count_52 : decode cX7_count 52 = .ok (.aload_n 0, 1) := by decide +kernel
theorem dX7_count_53 : decode cX7_count 53 = .ok (.getfield 143, 3) := by decide +kernel
theorem dX7_count_56 : decode cX7_count 56 = .ok (.ireturn, 1) := by decide +kernel
theorem dX7_count_57 : decode cX7_count 57 = .ok (.aload_n 0, 1) := by decide +kernel
theorem dX7_count_58 : decode cX7_count 58 = .ok (.getfield 146, 3) := by decide +kernel
theorem dX7_count_61 : decode cX7_count 61 = .ok (.ireturn, 1) := by decide +kernel
theorem dX7_count_62 : decode cX7_count 62 = .ok (.aload_n 0, 1) := by decide +kernel
theorem dX7_count_63 : decode cX7_count 63 = .ok (.getfield 149, 3) := by decide +kernel
theorem dX7_count_66 : decode cX7_count 66 = .ok (.ireturn, 1) := by decide +kernel
theorem dX7_count_67 : decode cX7_count 67 = .ok (.aload_n 0, 1) := by decide +kernel
theorem dX7_count_68 : decode cX7_count 68 = .ok (.getfield 152, 3) := by decide +kernel
theorem dX7_count_71 : decode cX7_count 71 = .ok (.ireturn, 1) := by decide +kernel
theorem dX7_count_72 : decode cX7_count 72 = .ok (.aload_n 0, 1) := by decide +kernel
theorem dX7_count_73 : decode cX7_count 73 = .ok (.getfield 155, 3) := by decide +kernel
theorem dX7_count_76 : decode cX7_count 76 = .ok (.ireturn, 1) := by decide +kernel
theorem dX7_count_77 : decode cX7_count 77 = .ok (.aload_n 0, 1) := by decide +kernel
theorem dX7_count_78 : decode cX7_count 78 = .ok (.getfield 165, 3) := by decide +kernel
theorem dX7_count_81 : decode cX7_count 81 = .ok (.ireturn, 1) := by decide +kernel
theorem dX7_count_82 : decode cX7_count 82 = .ok (.aload_n 0, 1) := by decide +kernel
theorem dX7_count_83 : decode cX7_count 83 = .ok (.getfield 129, 3) := by decide +kernel
theorem dX7_count_86 : decode cX7_count 86 = .ok (.ireturn, 1) := by decide +kernel
theorem dX7_count_87 : decode cX7_count 87 = .ok (.aload_n 0, 1) := by decide +kernel
theorem dX7_count_88 : decode cX7_count 88 = .ok (.getfield 119, 3) := by decide +kernel
theorem dX7_count_91 : decode cX7_count 91 = .ok (.ireturn, 1) := by decide +kernel
theorem dX7_count_92 : decode cX7_count 92 = .ok (.bipush (-9), 2) := by decide +kernel
theorem dX7_count_94 : decode cX7_count 94 = .ok (.ireturn, 1) := by decide +kernel
set_option maxRecDepth 20000 in
theorem ggX7_line_X7_isIn : GoodIn wsX7_line wsX7_isIn := goodIn_r _ [9] (by decide +kernel) (by decide +kernel)
set_option maxRecDepth 20000 in
theorem gX7_line_X7_isIn : GoodIn wsX7_line (va_wsS RX7 125 yX7_isIn wsX7_isIn) := goodIn_app (goodIn_of _ (by decide +kernel)) ggX7_line_X7_isIn
theorem dX7_line_0 : decode cX7_line 0 = .ok (.aload_n 0, 1) := by decide +kernel
theorem dX7_line_1 : decode cX7_line 1 = .ok (.iconst 0, 1) := by decide +kernel
theorem dX7_line_2 : decode cX7_line 2 = .ok (.putfield 122, 3) := by decide +kernel
theorem dX7_line_5 : decode cX7_line 5 = .ok (.iload_n 1, 1) := by decide +kernel
theorem dX7_line_6 : decode cX7_line 6 = .ok (.iconst 0, 1) := by decide +kernel
theorem dX7_line_7 : decode cX7_line 7 = .ok (.aload_n 0, 1) := by decide +kernel
theorem dX7_line_8 : decode cX7_line 8 = .ok (.getfield 146, 3) := by decide +kernel
theorem dX7_line_11 : decode cX7_line 11 = .ok (.iconst 1, 1) := by decide +kernel
theorem dX7_line_12 : decode cX7_line 12 = .ok (.isub, 1) := by decide +kernel
theorem dX7_line_13 : decode cX7_line 13 = .ok (.invokestatic 125, 3) := by decide +kernel
theorem dX7_line_16 : decode cX7_line 16 = .ok (.ifCond .eq 7, 3) := by decide +kernel
theorem dX7_line_19 : decode cX7_line 19 = .ok (.iload_n 2, 1) := by decide +kernel
theorem dX7_line_20 : decode cX7_line 20 = .ok (.ifCond .ge 6, 3) := by decide +kernel
theorem dX7_line_23 : decode cX7_line 23 = .ok (.bipush (-9), 2) := by decide +kernel
theorem dX7_line_25 : decode cX7_line 25 = .ok (.ireturn, 1) := by decide +kernel
theorem dX7_line_26 : decode cX7_line 26 = .ok (.iload_n 2, 1) := by decide +kernel
theorem dX7_line_27 : decode cX7_line 27 = .ok (.aload_n 0, 1) := by decide +kernel
theorem dX7_line_28 : decode cX7_line 28 = .ok (.getfield 19, 3) := by decide +kernel
theorem dX7_line_31 : decode cX7_line 31 = .ok (.iload_n 1, 1) := by decide +kernel
theorem dX7_line_32 : decode cX7_line 32 = .ok (.iaload, 1) := by decide +kernel
theorem dX7_line_33 : decode cX7_line 33 = .ok (.if_icmp .lt 6, 3) := by decide +kernel
theorem dX7_line_36 : decode cX7_line 36 = .ok (.bipush (-4), 2) := by decide +kernel
theorem dX7_line_38 : decode cX7_line 38 = .ok (.ireturn, 1) := by decide +kernel
theorem dX7_line_39 : decode cX7_line 39 = .ok (.aload_n 0, 1) := by decide +kernel
theorem dX7_line_40 : decode cX7_line 40 = .ok (.getfield 22, 3) := by decide +kernel
theorem dX7_line_43 : decode cX7_line 43 = .ok (.iconst 5, 1) := by decide +kernel
theorem dX7_line_44 : decode cX7_line 44 = .ok (.iload_n 1, 1) := by decide +kernel
theorem dX7_line_45 : decode cX7_line 45 = .ok (.imul, 1) := by decide +kernel
theorem dX7_line_46 : decode cX7_line 46 = .ok (.iload_n 2, 1) := by decide +kernel
theorem dX7_line_47 : decode cX7_line 47 = .ok (.iadd, 1) := by decide +kernel
theorem dX7_line_48 : decode cX7_line 48 = .ok (.iaload, 1) := by decide +kernel
theorem dX7_line_49 : decode cX7_line 49 = .ok (.istore 4, 2) := by decide +kernel
theorem dX7_line_51 : decode cX7_line 51 = .ok (.iload_n 3, 1) := by decide +kernel
theorem dX7_line_52 : decode cX7_line 52 = .ok (.ifCond .eq 13, 3) := by decide +kernel
theorem dX7_line_55 : decode cX7_line 55 = .ok (.aload_n 0, 1) := by decide +kernel
theorem dX7_line_56 : decode cX7_line 56 = .ok (.getfield 13, 3) := by decide +kernel
theorem dX7_line_59 : decode cX7_line 59 = .ok (.iload 4, 2) := by decide +kernel
theorem dX7_line_61 : decode cX7_line 61 = .ok (.iaload, 1) := by decide +kernel
theorem dX7_line_62 : decode cX7_line 62 = .ok (.goto 5, 3) := by decide +kernel
theorem dX7_line_65 : decode cX7_line 65 = .ok (.iload 4, 2) := by decide +kernel
theorem dX7_line_67 : decode cX7_line 67 = .ok (.ireturn, 1) := by decide +kernel
set_option maxRecDepth 20000 in
theorem ggX7_isTriple_X7_isIn : GoodIn wsX7_isTriple wsX7_isIn := goodIn_r _ [5] (by decide +kernel) (by decide +kernel)
set_option maxRecDepth 20000 in
theorem gX7_isTriple_X7_isIn : GoodIn wsX7_isTriple (va_wsS RX7 125 yX7_isIn wsX7_isIn) := goodIn_app (goodIn_of _ (by decide +kernel)) ggX7_isTriple_X7_isIn
theorem dX7_isTriple_0 : decode cX7_isTriple 0 = .ok (.iload_n 1, 1) := by decide +kernel
theorem dX7_isTriple_1 : decode cX7_isTriple 1 = .ok (.iconst 0, 1) := by decide +kernel
theorem dX7_isTriple_2 : decode cX7_isTriple 2 = .ok (.aload_n 0, 1) := by decide +kernel
theorem dX7_isTriple_3 : decode cX7_isTriple 3 = .ok (.getfield 143, 3) := by decide +kernel
theorem dX7_isTriple_6 : decode cX7_isTriple 6 = .ok (.iconst 1, 1) := by decide +kernel
theorem dX7_isTriple_7 : decode cX7_isTriple 7 = .ok (.isub, 1) := by decide +kernel
theorem dX7_isTriple_8 : decode cX7_isTriple 8 = .ok (.invokestatic 125, 3) := by decide +kernel
theorem dX7_isTriple_11 : decode cX7_isTriple 11 = .ok (.ifCond .eq 50, 3) := by decide +kernel
theorem dX7_isTriple_14 : decode cX7_isTriple 14 = .ok (.iload_n 2, 1) := by decide +kernel
theorem dX7_isTriple_15 : decode cX7_isTriple 15 = .ok (.iconst 0, 1) := by decide +kernel
theorem dX7_isTriple_16 : decode cX7_isTriple 16 = .ok (.aload_n 0, 1) := by decide +kernel
theorem dX7_isTriple_17 : decode cX7_isTriple 17 = .ok (.getfield 143, 3) := by decide +kernel
theorem dX7_isTriple_20 : decode cX7_isTriple 20 = .ok (.iconst 1, 1) := by decide +kernel
theorem dX7_isTriple_21 : decode cX7_isTriple 21 = .ok (.isub, 1) := by decide +kernel
theorem dX7_isTriple_22 : decode cX7_isTriple 22 = .ok (.invokestatic 125, 3) := by decide +kernel
theorem dX7_isTriple_25 : decode cX7_isTriple 25 = .ok (.ifCond .eq 36, 3) := by decide +kernel
theorem dX7_isTriple_28 : decode cX7_isTriple 28 = .ok (.iload_n 3, 1) := by decide +kernel
theorem dX7_isTriple_29 : decode cX7_isTriple 29 = .ok (.iconst 0, 1) := by decide +kernel
theorem dX7_isTriple_30 : decode cX7_isTriple 30 = .ok (.aload_n 0, 1) := by decide +kernel
theorem dX7_isTriple_31 : decode cX7_isTriple 31 = .ok (.getfield 143, 3) := by decide +kernel
theorem dX7_isTriple_34 : decode cX7_isTriple 34 = .ok (.iconst 1, 1) := by decide +kernel
theorem dX7_isTriple_35 : decode cX7_isTriple 35 = .ok (.isub, 1) := by decide +kernel
theorem dX7_isTriple_36 : decode cX7_isTriple 36 = .ok (.invokestatic 125, 3) := by decide +kernel
theorem dX7_isTriple_39 : decode cX7_isTriple 39 = .ok (.ifCond .eq 22, 3) := by decide +kernel
theorem dX7_isTriple_42 : decode cX7_isTriple 42 = .ok (.iload_n 1, 1) := by decide +kernel
theorem dX7_isTriple_43 : decode cX7_isTriple 43 = .ok (.iload_n 2, 1) := by decide +kernel
theorem dX7_isTriple_44 : decode cX7_isTriple 44 = .ok (.if_icmp .eq 17, 3) := by decide +kernel
theorem dX7_isTriple_47 : decode cX7_isTriple 47 = .ok (.iload_n 2, 1) := by decide +kernel
theorem dX7_isTriple_48 : decode cX7_isTriple 48 = .ok (.iload_n 3, 1) := by decide +kernel
theorem dX7_isTriple_49 : decode cX7_isTriple 49 = .ok (.if_icmp .eq 12, 3) := by decide +kernel
theorem dX7_isTriple_52 : decode cX7_isTriple 52 = .ok (.iload_n 1, 1) := by decide +kernel
theorem dX7_isTriple_53 : decode cX7_isTriple 53 = .ok (.iload_n 3, 1) := by decide +kernel
theorem dX7_isTriple_54 : decode cX7_isTriple 54 = .ok (.if_icmp .eq 7, 3) := by decide +kernel
theorem dX7_isTriple_57 : decode cX7_isTriple 57 = .ok (.iconst 1, 1) := by decide +kernel
theorem dX7_isTriple_58 : decode cX7_isTriple 58 = .ok (.goto 4, 3) := by decide +kernel
theorem dX7_isTriple_61 : decode cX7_isTriple 61 = .ok (.iconst 0, 1) := by decide +kernel
theorem dX7_isTriple_62 : decode cX7_isTriple 62 = .ok (.ireturn, 1) := by decide +kernel
theorem dX7_maskOf_0 : decode cX7_maskOf 0 = .ok (.iconst 1, 1) := by decide +kernel
theorem dX7_maskOf_1 : decode cX7_maskOf 1 = .ok (.iload_n 0, 1) := by decide +kernel
theorem dX7_maskOf_2 : decode cX7_maskOf 2 = .ok (.ishl, 1) := by decide +kernel
theorem dX7_maskOf_3 : decode cX7_maskOf 3 = .ok (.iconst 1, 1) := by decide +kernel
theorem dX7_maskOf_4 : decode cX7_maskOf 4 = .ok (.iload_n 1, 1) := by decide +kernel
theorem dX7_maskOf_5 : decode cX7_maskOf 5 = .ok (.ishl, 1) := by decide +kernel
theorem dX7_maskOf_6 : decode cX7_maskOf 6 = .ok (.ior, 1) := by decide +kernel
theorem dX7_maskOf_7 : decode cX7_maskOf 7 = .ok (.iconst 1, 1) := by decide +kernel
theorem dX7_maskOf_8 : decode cX7_maskOf 8 = .ok (.iload_n 2, 1) := by decide +kernel
theorem dX7_maskOf_9 : decode cX7_maskOf 9 = .ok (.ishl, 1) := by decide +kernel
theorem dX7_maskOf_10 : decode cX7_maskOf 10 = .ok (.ior, 1) := by decide +kernel
theorem dX7_maskOf_11 : decode cX7_maskOf 11 = .ok (.ireturn, 1) := by decide +kernel
theorem dX7_turnOf_0 : decode cX7_turnOf 0 = .ok (.iload_n 0, 1) := by decide +kernel
theorem dX7_turnOf_1 : decode cX7_turnOf 1 = .ok (.iload_n 1, 1) := by decide +kernel
theorem dX7_turnOf_2 : decode cX7_turnOf 2 = .ok (.if_icmp .le 7, 3) := by decide +kernel
theorem dX7_turnOf_5 : decode cX7_turnOf 5 = .ok (.iconst 1, 1) := by decide +kernel
theorem dX7_turnOf_6 : decode cX7_turnOf 6 = .ok (.goto 4, 3) := by decide +kernel
theorem dX7_turnOf_9 : decode cX7_turnOf 9 = .ok (.iconst 0, 1) := by decide +kernel
theorem dX7_turnOf_10 : decode cX7_turnOf 10 = .ok (.iload_n 0, 1) := by decide +kernel
theorem dX7_turnOf_11 : decode cX7_turnOf 11 = .ok (.iload_n 2, 1) := by decide +kernel
theorem dX7_turnOf_12 : decode cX7_turnOf 12 = .ok (.if_icmp .le 7, 3) := by decide +kernel
theorem dX7_turnOf_15 : decode cX7_turnOf 15 = .ok (.iconst 1, 1) := by decide +kernel
theorem dX7_turnOf_16 : decode cX7_turnOf 16 = .ok (.goto 4, 3) := by decide +kernel
theorem dX7_turnOf_19 : decode cX7_turnOf 19 = .ok (.iconst 0, 1) := by decide +kernel
theorem dX7_turnOf_20 : decode cX7_turnOf 20 = .ok (.iadd, 1) := by decide +kernel
theorem dX7_turnOf_21 : decode cX7_turnOf 21 = .ok (.iload_n 1, 1) := by decide +kernel
theorem dX7_turnOf_22 : decode cX7_turnOf 22 = .ok (.iload_n 2, 1) := by decide +kernel
theorem dX7_turnOf_23 : decode cX7_turnOf 23 = .ok (.if_icmp .le 7, 3) := by decide +kernel
theorem dX7_turnOf_26 : decode cX7_turnOf 26 = .ok (.iconst 1, 1) := by decide +kernel
theorem dX7_turnOf_27 : decode cX7_turnOf 27 = .ok (.goto 4, 3) := by decide +kernel
theorem dX7_turnOf_30 : decode cX7_turnOf 30 = .ok (.iconst 0, 1) := by decide +kernel
theorem dX7_turnOf_31 : decode cX7_turnOf 31 = .ok (.iadd, 1) := by decide +kernel
theorem dX7_turnOf_32 : decode cX7_turnOf 32 = .ok (.istore_n 3, 1) := by decide +kernel
theorem dX7_turnOf_33 : decode cX7_turnOf 33 = .ok (.iload_n 3, 1) := by decide +kernel
theorem dX7_turnOf_34 : decode cX7_turnOf 34 = .ok (.iconst 2, 1) := by decide +kernel
theorem dX7_turnOf_35 : decode cX7_turnOf 35 = .ok (.irem, 1) := by decide +kernel
theorem dX7_turnOf_36 : decode cX7_turnOf 36 = .ok (.ifCond .ne 7, 3) := by decide +kernel
theorem dX7_turnOf_39 : decode cX7_turnOf 39 = .ok (.iconst 1, 1) := by decide +kernel
theorem dX7_turnOf_40 : decode cX7_turnOf 40 = .ok (.goto 4, 3) := by decide +kernel
theorem dX7_turnOf_43 : decode cX7_turnOf 43 = .ok (.iconst (-1), 1) := by decide +kernel
theorem dX7_turnOf_44 : decode cX7_turnOf 44 = .ok (.ireturn, 1) := by decide +kernel
theorem dX7_isFlat_0 : decode cX7_isFlat 0 = .ok (.iconst 0, 1) := by decide +kernel
theorem dX7_isFlat_1 : decode cX7_isFlat 1 = .ok (.istore_n 2, 1) := by decide +kernel
theorem dX7_isFlat_2 : decode cX7_isFlat 2 = .ok (.iconst 0, 1) := by decide +kernel
theorem dX7_isFlat_3 : decode cX7_isFlat 3 = .ok (.istore_n 3, 1) := by decide +kernel
theorem dX7_isFlat_4 : decode cX7_isFlat 4 = .ok (.iload_n 3, 1) := by decide +kernel
theorem dX7_isFlat_5 : decode cX7_isFlat 5 = .ok (.aload_n 0, 1) := by decide +kernel
theorem dX7_isFlat_6 : decode cX7_isFlat 6 = .ok (.getfield 146, 3) := by decide +kernel
theorem dX7_isFlat_9 : decode cX7_isFlat 9 = .ok (.if_icmp .ge 31, 3) := by decide +kernel
theorem dX7_isFlat_12 : decode cX7_isFlat 12 = .ok (.iload_n 2, 1) := by decide +kernel
theorem dX7_isFlat_13 : decode cX7_isFlat 13 = .ok (.ifCond .ne 27, 3) := by decide +kernel
theorem dX7_isFlat_16 : decode cX7_isFlat 16 = .ok (.aload_n 0, 1) := by decide +kernel
theorem dX7_isFlat_17 : decode cX7_isFlat 17 = .ok (.getfield 25, 3) := by decide +kernel
theorem dX7_isFlat_20 : decode cX7_isFlat 20 = .ok (.iload_n 3, 1) := by decide +kernel
theorem dX7_isFlat_21 : decode cX7_isFlat 21 = .ok (.iaload, 1) := by decide +kernel
theorem dX7_isFlat_22 : decode cX7_isFlat 22 = .ok (.iload_n 1, 1) := by decide +kernel
theorem dX7_isFlat_23 : decode cX7_isFlat 23 = .ok (.iand, 1) := by decide +kernel
theorem dX7_isFlat_24 : decode cX7_isFlat 24 = .ok (.iload_n 1, 1) := by decide +kernel
theorem dX7_isFlat_25 : decode cX7_isFlat 25 = .ok (.if_icmp .ne 7, 3) := by decide +kernel
theorem dX7_isFlat_28 : decode cX7_isFlat 28 = .ok (.iconst 1, 1) := by decide +kernel
theorem dX7_isFlat_29 : decode cX7_isFlat 29 = .ok (.goto 4, 3) := by decide +kernel
theorem dX7_isFlat_32 : decode cX7_isFlat 32 = .ok (.iconst 0, 1) := by decide +kernel
theorem dX7_isFlat_33 : decode cX7_isFlat 33 = .ok (.istore_n 2, 1) := by decide +kernel
theorem dX7_isFlat_34 : decode cX7_isFlat 34 = .ok (.iinc 3 1, 3) := by decide +kernel
theorem dX7_isFlat_37 : decode cX7_isFlat 37 = .ok (.goto (-33), 3) := by decide +kernel
theorem dX7_isFlat_40 : decode cX7_isFlat 40 = .ok (.iload_n 2, 1) := by decide +kernel
theorem dX7_isFlat_41 : decode cX7_isFlat 41 = .ok (.ireturn, 1) := by decide +kernel
theorem dX7_barAt_0 : decode cX7_barAt 0 = .ok (.bipush (-4), 2) := by decide +kernel
theorem dX7_barAt_2 : decode cX7_barAt 2 = .ok (.istore_n 2, 1) := by decide +kernel
theorem dX7_barAt_3 : decode cX7_barAt 3 = .ok (.iconst 0, 1) := by decide +kernel
theorem dX7_barAt_4 : decode cX7_barAt 4 = .ok (.istore_n 3, 1) := by decide +kernel
theorem dX7_barAt_5 : decode cX7_barAt 5 = .ok (.iload_n 3, 1) := by decide +kernel
theorem dX7_barAt_6 : decode cX7_barAt 6 = .ok (.aload_n 0, 1) := by decide +kernel
theorem dX7_barAt_7 : decode cX7_barAt 7 = .ok (.getfield 149, 3) := by decide +kernel
theorem dX7_barAt_10 : decode cX7_barAt 10 = .ok (.if_icmp .ge 25, 3) := by decide +kernel
theorem dX7_barAt_13 : decode cX7_barAt 13 = .ok (.aload_n 0, 1) := by decide +kernel
theorem dX7_barAt_14 : decode cX7_barAt 14 = .ok (.getfield 37, 3) := by decide +kernel
theorem dX7_barAt_17 : decode cX7_barAt 17 = .ok (.iload_n 3, 1) := by decide +kernel
theorem dX7_barAt_18 : decode cX7_barAt 18 = .ok (.iaload, 1) := by decide +kernel
theorem dX7_barAt_19 : decode cX7_barAt 19 = .ok (.iload_n 1, 1) := by decide +kernel
theorem dX7_barAt_20 : decode cX7_barAt 20 = .ok (.if_icmp .ne 7, 3) := by decide +kernel
theorem dX7_barAt_23 : decode cX7_barAt 23 = .ok (.iload_n 3, 1) := by decide +kernel
theorem dX7_barAt_24 : decode cX7_barAt 24 = .ok (.goto 4, 3) := by decide +kernel
theorem dX7_barAt_27 : decode cX7_barAt 27 = .ok (.iload_n 2, 1) := by decide +kernel
theorem dX7_barAt_28 : decode cX7_barAt 28 = .ok (.istore_n 2, 1) := by decide +kernel
theorem dX7_barAt_29 : decode cX7_barAt 29 = .ok (.iinc 3 1, 3) := by decide +kernel
theorem dX7_barAt_32 : decode cX7_barAt 32 = .ok (.goto (-27), 3) := by decide +kernel
theorem dX7_barAt_35 : decode cX7_barAt 35 = .ok (.iload_n 2, 1) := by decide +kernel
theorem dX7_barAt_36 : decode cX7_barAt 36 = .ok (.ireturn, 1) := by decide +kernel
theorem dX7_orientAt_0 : decode cX7_orientAt 0 = .ok (.bipush (-4), 2) := by decide +kernel
theorem dX7_orientAt_2 : decode cX7_orientAt 2 = .ok (.istore_n 2, 1) := by decide +kernel
theorem dX7_orientAt_3 : decode cX7_orientAt 3 = .ok (.iconst 0, 1) := by decide +kernel
theorem dX7_orientAt_4 : decode cX7_orientAt 4 = .ok (.istore_n 3, 1) := by decide +kernel
theorem dX7_orientAt_5 : decode cX7_orientAt 5 = .ok (.iload_n 3, 1) := by decide +kernel
theorem dX7_orientAt_6 : decode cX7_orientAt 6 = .ok (.aload_n 0, 1) := by decide +kernel
theorem dX7_orientAt_7 : decode cX7_orientAt 7 = .ok (.getfield 152, 3) := by decide +kernel
theorem dX7_orientAt_10 : decode cX7_orientAt 10 = .ok (.if_icmp .ge 25, 3) := by decide +kernel
theorem dX7_orientAt_13 : decode cX7_orientAt 13 = .ok (.aload_n 0, 1) := by decide +kernel
theorem dX7_orientAt_14 : decode cX7_orientAt 14 = .ok (.getfield 40, 3) := by decide +kernel
theorem dX7_orientAt_17 : decode cX7_orientAt 17 = .ok (.iload_n 3, 1) := by decide +kernel
theorem dX7_orientAt_18 : decode cX7_orientAt 18 = .ok (.iaload, 1) := by decide +kernel
theorem dX7_orientAt_19 : decode cX7_orientAt 19 = .ok (.iload_n 1, 1) := by decide +kernel
theorem dX7_orientAt_20 : decode cX7_orientAt 20 = .ok (.if_icmp .ne 7, 3) := by decide +kernel
theorem dX7_orientAt_23 : decode cX7_orientAt 23 = .ok (.iload_n 3, 1) := by decide +kernel
theorem dX7_orientAt_24 : decode cX7_orientAt 24 = .ok (.goto 4, 3) := by decide +kernel
theorem dX7_orientAt_27 : decode cX7_orientAt 27 = .ok (.iload_n 2, 1) := by decide +kernel
theorem dX7_orientAt_28 : decode cX7_orientAt 28 = .ok (.istore_n 2, 1) := by decide +kernel
theorem dX7_orientAt_29 : decode cX7_orientAt 29 = .ok (.iinc 3 1, 3) := by decide +kernel
theorem dX7_orientAt_32 : decode cX7_orientAt 32 = .ok (.goto (-27), 3) := by decide +kernel
theorem dX7_orientAt_35 : decode cX7_orientAt 35 = .ok (.iload_n 2, 1) := by decide +kernel
theorem dX7_orientAt_36 : decode cX7_orientAt 36 = .ok (.ireturn, 1) := by decide +kernel
set_option maxRecDepth 20000 in
theorem ggX7_bar_X7_isTriple : GoodIn wsX7_bar wsX7_isTriple := goodIn_r _ [8, 9, 10, 11, 7, 12, 26, 27, 28, 29, 30, 31, 32, 33, 34, 35, 36, 37, 38, 39, 40, 41, 42, 43, 44, 45, 46, 47, 48, 49, 50, 51, 52, 53, 54, 55, 56, 57, 58, 59, 60, 61, 62, 63, 64, 65, 66, 67, 68, 69, 70, 71, 72, 73, 74, 75, 76, 77, 78] (by decide +kernel) (by decide +kernel)
set_option maxRecDepth 20000 in
theorem gX7_bar_X7_isTriple : GoodIn wsX7_bar (wsV RX7 168 RX7 yX7_isTriple wsX7_isTriple) := goodIn_app (goodIn_of _ (by decide +kernel)) ggX7_bar_X7_isTriple
set_option maxRecDepth 20000 in
theorem ggX7_bar_X7_maskOf : GoodIn wsX7_bar wsX7_maskOf := goodIn_r _ [15] (by decide +kernel) (by decide +kernel)
set_option maxRecDepth 20000 in
theorem gX7_bar_X7_maskOf : GoodIn wsX7_bar (va_wsS RX7 171 yX7_maskOf wsX7_maskOf) := goodIn_app (goodIn_of _ (by decide +kernel)) ggX7_bar_X7_maskOf
set_option maxRecDepth 20000 in
theorem ggX7_bar_X7_isFlat : GoodIn wsX7_bar wsX7_isFlat := goodIn_r _ [19, 20, 21, 26, 27, 28, 29, 30, 31, 32, 33, 34, 35, 36, 37, 38, 39, 40, 41, 42, 43, 44, 45, 46, 47, 48, 49, 50, 51, 52, 53, 54, 55, 56, 57, 58, 59, 60, 61, 62, 63, 64, 65, 66, 67, 68, 69, 70, 71, 72, 73, 74, 75, 76, 77, 78] (by decide +kernel) (by decide +kernel)
set_option maxRecDepth 20000 in
theorem gX7_bar_X7_isFlat : GoodIn wsX7_bar (wsV RX7 175 RX7 yX7_isFlat wsX7_isFlat) := goodIn_app (goodIn_of _ (by decide +kernel)) ggX7_bar_X7_isFlat
set_option maxRecDepth 20000 in
theorem ggX7_bar_X7_barAt : GoodIn wsX7_bar wsX7_barAt := goodIn_r _ [25, 2, 3, 26, 27, 28, 29, 30, 31, 32, 33, 34, 35, 36, 37, 38, 39, 40, 41, 42, 43, 44, 45, 46, 47, 48, 49, 50, 51, 52, 53, 54, 55, 56, 57, 58, 59, 60, 61, 62, 63, 64, 65, 66, 67, 68, 69, 70, 71, 72, 73, 74, 75, 76, 77, 78] (by decide +kernel) (by decide +kernel)
set_option maxRecDepth 20000 in
theorem gX7_bar_X7_barAt : GoodIn wsX7_bar (wsV RX7 179 RX7 yX7_barAt wsX7_barAt) := goodIn_app (goodIn_of _ (by decide +kernel)) ggX7_bar_X7_barAt
theorem dX7_bar_0 : decode cX7_bar 0 = .ok (.aload_n 0, 1) := by decide +kernel
theorem dX7_bar_1 : decode cX7_bar 1 = .ok (.iconst 0, 1) := by decide +kernel
theorem dX7_bar_2 : decode cX7_bar 2 = .ok (.putfield 122, 3) := by decide +kernel
theorem dX7_bar_5 : decode cX7_bar 5 = .ok (.aload_n 0, 1) := by decide +kernel
theorem dX7_bar_6 : decode cX7_bar 6 = .ok (.iload_n 1, 1) := by decide +kernel
theorem dX7_bar_7 : decode cX7_bar 7 = .ok (.iload_n 2, 1) := by decide +kernel
theorem dX7_bar_8 : decode cX7_bar 8 = .ok (.iload_n 3, 1) := by decide +kernel
theorem dX7_bar_9 : decode cX7_bar 9 = .ok (.invokevirtual 168, 3) := by decide +kernel
theorem dX7_bar_12 : decode cX7_bar 12 = .ok (.ifCond .ne 6, 3) := by decide +kernel
theorem dX7_bar_15 : decode cX7_bar 15 = .ok (.bipush (-9), 2) := by decide +kernel
theorem dX7_bar_17 : decode cX7_bar 17 = .ok (.ireturn, 1) := by decide +kernel
theorem dX7_bar_18 : decode cX7_bar 18 = .ok (.iload_n 1, 1) := by decide +kernel
theorem dX7_bar_19 : decode cX7_bar 19 = .ok (.iload_n 2, 1) := by decide +kernel
theorem dX7_bar_20 : decode cX7_bar 20 = .ok (.iload_n 3, 1) := by decide +kernel
theorem dX7_bar_21 : decode cX7_bar 21 = .ok (.invokestatic 171, 3) := by decide +kernel
theorem dX7_bar_24 : decode cX7_bar 24 = .ok (.istore 4, 2) := by decide +kernel
theorem dX7_bar_26 : decode cX7_bar 26 = .ok (.aload_n 0, 1) := by decide +kernel
theorem dX7_bar_27 : decode cX7_bar 27 = .ok (.iload 4, 2) := by decide +kernel
theorem dX7_bar_29 : decode cX7_bar 29 = .ok (.invokevirtual 175, 3) := by decide +kernel
theorem dX7_bar_32 : decode cX7_bar 32 = .ok (.ifCond .eq 6, 3) := by decide +kernel
theorem dX7_bar_35 : decode cX7_bar 35 = .ok (.bipush (-2), 2) := by decide +kernel
theorem dX7_bar_37 : decode cX7_bar 37 = .ok (.ireturn, 1) := by decide +kernel
theorem dX7_bar_38 : decode cX7_bar 38 = .ok (.aload_n 0, 1) := by decide +kernel
theorem dX7_bar_39 : decode cX7_bar 39 = .ok (.iload 4, 2) := by decide +kernel
theorem dX7_bar_41 : decode cX7_bar 41 = .ok (.invokevirtual 179, 3) := by decide +kernel
theorem dX7_bar_44 : decode cX7_bar 44 = .ok (.bipush (-4), 2) := by decide +kernel
theorem dX7_bar_46 : decode cX7_bar 46 = .ok (.if_icmp .ne 36, 3) := by decide +kernel
theorem dX7_bar_49 : decode cX7_bar 49 = .ok (.aload_n 0, 1) := by decide +kernel
theorem dX7_bar_50 : decode cX7_bar 50 = .ok (.getfield 149, 3) := by decide +kernel
theorem dX7_bar_53 : decode cX7_bar 53 = .ok (.bipush 20, 2) := by decide +kernel
theorem dX7_bar_55 : decode cX7_bar 55 = .ok (.if_icmp .ne 6, 3) := by decide +kernel
theorem dX7_bar_58 : decode cX7_bar 58 = .ok (.bipush (-3), 2) := by decide +kernel
theorem dX7_bar_60 : decode cX7_bar 60 = .ok (.ireturn, 1) := by decide +kernel
theorem dX7_bar_61 : decode cX7_bar 61 = .ok (.aload_n 0, 1) := by decide +kernel
theorem dX7_bar_62 : decode cX7_bar 62 = .ok (.getfield 37, 3) := by decide +kernel
theorem dX7_bar_65 : decode cX7_bar 65 = .ok (.aload_n 0, 1) := by decide +kernel
theorem dX7_bar_66 : decode cX7_bar 66 = .ok (.getfield 149, 3) := by decide +kernel
theorem dX7_bar_69 : decode cX7_bar 69 = .ok (.iload 4, 2) := by decide +kernel
theorem dX7_bar_71 : decode cX7_bar 71 = .ok (.iastore, 1) := by decide +kernel
theorem dX7_bar_72 : decode cX7_bar 72 = .ok (.aload_n 0, 1) := by decide +kernel
theorem dX7_bar_73 : decode cX7_bar 73 = .ok (.dup, 1) := by decide +kernel
theorem dX7_bar_74 : decode cX7_bar 74 = .ok (.getfield 149, 3) := by decide +kernel
theorem dX7_bar_77 : decode cX7_bar 77 = .ok (.iconst 1, 1) := by decide +kernel
theorem dX7_bar_78 : decode cX7_bar 78 = .ok (.iadd, 1) := by decide +kernel
theorem dX7_bar_79 : decode cX7_bar 79 = .ok (.putfield 149, 3) := by decide +kernel
theorem dX7_bar_82 : decode cX7_bar 82 = .ok (.aload_n 0, 1) := by decide +kernel
theorem dX7_bar_83 : decode cX7_bar 83 = .ok (.getfield 149, 3) := by decide +kernel
theorem dX7_bar_86 : decode cX7_bar 86 = .ok (.ireturn, 1) := by decide +kernel
set_option maxRecDepth 20000 in
theorem ggX7_orient_X7_isTriple : GoodIn wsX7_orient wsX7_isTriple := goodIn_r _ [9, 10, 11, 12, 8, 13, 30, 31, 32, 33, 34, 35, 36, 37, 38, 39, 40, 41, 42, 43, 44, 45, 46, 47, 48, 49, 50, 51, 52, 53, 54, 55, 56, 57, 58, 59, 60, 61, 62, 63, 64, 65, 66, 67, 68, 69, 70, 71, 72, 73, 74, 75, 76, 77, 78, 79, 80, 81, 82] (by decide +kernel) (by decide +kernel)
set_option maxRecDepth 20000 in
theorem gX7_orient_X7_isTriple : GoodIn wsX7_orient (wsV RX7 168 RX7 yX7_isTriple wsX7_isTriple) := goodIn_app (goodIn_of _ (by decide +kernel)) ggX7_orient_X7_isTriple
set_option maxRecDepth 20000 in
theorem ggX7_orient_X7_maskOf : GoodIn wsX7_orient wsX7_maskOf := goodIn_r _ [16] (by decide +kernel) (by decide +kernel)
set_option maxRecDepth 20000 in
theorem gX7_orient_X7_maskOf : GoodIn wsX7_orient (va_wsS RX7 171 yX7_maskOf wsX7_maskOf) := goodIn_app (goodIn_of _ (by decide +kernel)) ggX7_orient_X7_maskOf
set_option maxRecDepth 20000 in
theorem ggX7_orient_X7_turnOf : GoodIn wsX7_orient wsX7_turnOf := goodIn_r _ [19] (by decide +kernel) (by decide +kernel)
set_option maxRecDepth 20000 in
theorem gX7_orient_X7_turnOf : GoodIn wsX7_orient (va_wsS RX7 183 yX7_turnOf wsX7_turnOf) := goodIn_app (goodIn_of _ (by decide +kernel)) ggX7_orient_X7_turnOf
set_option maxRecDepth 20000 in
theorem ggX7_orient_X7_orientAt : GoodIn wsX7_orient wsX7_orientAt := goodIn_r _ [23, 3, 4, 30, 31, 32, 33, 34, 35, 36, 37, 38, 39, 40, 41, 42, 43, 44, 45, 46, 47, 48, 49, 50, 51, 52, 53, 54, 55, 56, 57, 58, 59, 60, 61, 62, 63, 64, 65, 66, 67, 68, 69, 70, 71, 72, 73, 74, 75, 76, 77, 78, 79, 80, 81, 82] (by decide +kernel) (by decide +kernel)
set_option maxRecDepth 20000 in
theorem gX7_orient_X7_orientAt : GoodIn wsX7_orient (wsV RX7 186 RX7 yX7_orientAt wsX7_orientAt) := goodIn_app (goodIn_of _ (by decide +kernel)) ggX7_orient_X7_orientAt
set_option maxRecDepth 20000 in
theorem ggX7_orient_X7_isFlat : GoodIn wsX7_orient wsX7_isFlat := goodIn_r _ [27, 28, 29, 30, 31, 32, 33, 34, 35, 36, 37, 38, 39, 40, 41, 42, 43, 44, 45, 46, 47, 48, 49, 50, 51, 52, 53, 54, 55, 56, 57, 58, 59, 60, 61, 62, 63, 64, 65, 66, 67, 68, 69, 70, 71, 72, 73, 74, 75, 76, 77, 78, 79, 80, 81, 82] (by decide +kernel) (by decide +kernel)
set_option maxRecDepth 20000 in
theorem gX7_orient_X7_isFlat : GoodIn wsX7_orient (wsV RX7 175 RX7 yX7_isFlat wsX7_isFlat) := goodIn_app (goodIn_of _ (by decide +kernel)) ggX7_orient_X7_isFlat
theorem dX7_orient_0 : decode cX7_orient 0 = .ok (.aload_n 0, 1) := by decide +kernel
theorem dX7_orient_1 : decode cX7_orient 1 = .ok (.iconst 0, 1) := by decide +kernel
theorem dX7_orient_2 : decode cX7_orient 2 = .ok (.putfield 122, 3) := by decide +kernel
theorem dX7_orient_5 : decode cX7_orient 5 = .ok (.aload_n 0, 1) := by decide +kernel
theorem dX7_orient_6 : decode cX7_orient 6 = .ok (.iload_n 1, 1) := by decide +kernel
theorem dX7_orient_7 : decode cX7_orient 7 = .ok (.iload_n 2, 1) := by decide +kernel
theorem dX7_orient_8 : decode cX7_orient 8 = .ok (.iload_n 3, 1) := by decide +kernel
theorem dX7_orient_9 : decode cX7_orient 9 = .ok (.invokevirtual 168, 3) := by decide +kernel
theorem dX7_orient_12 : decode cX7_orient 12 = .ok (.ifCond .eq 15, 3) := by decide +kernel
theorem dX7_orient_15 : decode cX7_orient 15 = .ok (.iload 4, 2) := by decide +kernel
theorem dX7_orient_17 : decode cX7_orient 17 = .ok (.iconst 1, 1) := by decide +kernel
theorem dX7_orient_18 : decode cX7_orient 18 = .ok (.if_icmp .eq 12, 3) := by decide +kernel
theorem dX7_orient_21 : decode cX7_orient 21 = .ok (.iload 4, 2) := by decide +kernel
theorem dX7_orient_23 : decode cX7_orient 23 = .ok (.iconst (-1), 1) := by decide +kernel
theorem dX7_orient_24 : decode cX7_orient 24 = .ok (.if_icmp .eq 6, 3) := by decide +kernel
theorem dX7_orient_27 : decode cX7_orient 27 = .ok (.bipush (-9), 2) := by decide +kernel
theorem dX7_orient_29 : decode cX7_orient 29 = .ok (.ireturn, 1) := by decide +kernel
theorem dX7_orient_30 : decode cX7_orient 30 = .ok (.iload_n 1, 1) := by decide +kernel
theorem dX7_orient_31 : decode cX7_orient 31 = .ok (.iload_n 2, 1) := by decide +kernel
theorem dX7_orient_32 : decode cX7_orient 32 = .ok (.iload_n 3, 1) := by decide +kernel
theorem dX7_orient_33 : decode cX7_orient 33 = .ok (.invokestatic 171, 3) := by decide +kernel
theorem dX7_orient_36 : decode cX7_orient 36 = .ok (.istore 5, 2) := by decide +kernel
theorem dX7_orient_38 : decode cX7_orient 38 = .ok (.iload 4, 2) := by decide +kernel
theorem dX7_orient_40 : decode cX7_orient 40 = .ok (.iload_n 1, 1) := by decide +kernel
theorem dX7_orient_41 : decode cX7_orient 41 = .ok (.iload_n 2, 1) := by decide +kernel
theorem dX7_orient_42 : decode cX7_orient 42 = .ok (.iload_n 3, 1) := by decide +kernel
theorem dX7_orient_43 : decode cX7_orient 43 = .ok (.invokestatic 183, 3) := by decide +kernel
theorem dX7_orient_46 : decode cX7_orient 46 = .ok (.imul, 1) := by decide +kernel
theorem dX7_orient_47 : decode cX7_orient 47 = .ok (.istore 6, 2) := by decide +kernel
theorem dX7_orient_49 : decode cX7_orient 49 = .ok (.aload_n 0, 1) := by decide +kernel
theorem dX7_orient_50 : decode cX7_orient 50 = .ok (.iload 5, 2) := by decide +kernel
theorem dX7_orient_52 : decode cX7_orient 52 = .ok (.invokevirtual 186, 3) := by decide +kernel
theorem dX7_orient_55 : decode cX7_orient 55 = .ok (.istore 7, 2) := by decide +kernel
theorem dX7_orient_57 : decode cX7_orient 57 = .ok (.aload_n 0, 1) := by decide +kernel
theorem dX7_orient_58 : decode cX7_orient 58 = .ok (.iload 5, 2) := by decide +kernel
theorem dX7_orient_60 : decode cX7_orient 60 = .ok (.invokevirtual 175, 3) := by decide +kernel
theorem dX7_orient_63 : decode cX7_orient 63 = .ok (.ifCond .ne 22, 3) := by decide +kernel
theorem dX7_orient_66 : decode cX7_orient 66 = .ok (.iload 7, 2) := by decide +kernel
theorem dX7_orient_68 : decode cX7_orient 68 = .ok (.bipush (-4), 2) := by decide +kernel
theorem dX7_orient_70 : decode cX7_orient 70 = .ok (.if_icmp .eq 18, 3) := by decide +kernel
theorem dX7_orient_73 : decode cX7_orient 73 = .ok (.aload_n 0, 1) := by decide +kernel
theorem dX7_orient_74 : decode cX7_orient 74 = .ok (.getfield 43, 3) := by decide +kernel
theorem dX7_orient_77 : decode cX7_orient 77 = .ok (.iload 7, 2) := by decide +kernel
theorem dX7_orient_79 : decode cX7_orient 79 = .ok (.iaload, 1) := by decide +kernel
theorem dX7_orient_80 : decode cX7_orient 80 = .ok (.iload 6, 2) := by decide +kernel
theorem dX7_orient_82 : decode cX7_orient 82 = .ok (.if_icmp .eq 6, 3) := by decide +kernel
theorem dX7_orient_85 : decode cX7_orient 85 = .ok (.bipush (-2), 2) := by decide +kernel
theorem dX7_orient_87 : decode cX7_orient 87 = .ok (.ireturn, 1) := by decide +kernel
theorem dX7_orient_88 : decode cX7_orient 88 = .ok (.iload 7, 2) := by decide +kernel
theorem dX7_orient_90 : decode cX7_orient 90 = .ok (.bipush (-4), 2) := by decide +kernel
theorem dX7_orient_92 : decode cX7_orient 92 = .ok (.if_icmp .ne 47, 3) := by decide +kernel
theorem dX7_orient_95 : decode cX7_orient 95 = .ok (.aload_n 0, 1) := by decide +kernel
theorem dX7_orient_96 : decode cX7_orient 96 = .ok (.getfield 152, 3) := by decide +kernel
theorem dX7_orient_99 : decode cX7_orient 99 = .ok (.bipush 20, 2) := by decide +kernel
theorem dX7_orient_101 : decode cX7_orient 101 = .ok (.if_icmp .ne 6, 3) := by decide +kernel
theorem dX7_orient_104 : decode cX7_orient 104 = .ok (.bipush (-3), 2) := by decide +kernel
theorem dX7_orient_106 : decode cX7_orient 106 = .ok (.ireturn, 1) := by decide +kernel
theorem dX7_orient_107 : decode cX7_orient 107 = .ok (.aload_n 0, 1) := by decide +kernel
theorem dX7_orient_108 : decode cX7_orient 108 = .ok (.getfield 40, 3) := by decide +kernel
theorem dX7_orient_111 : decode cX7_orient 111 = .ok (.aload_n 0, 1) := by decide +kernel
theorem dX7_orient_112 : decode cX7_orient 112 = .ok (.getfield 152, 3) := by decide +kernel
theorem dX7_orient_115 : decode cX7_orient 115 = .ok (.iload 5, 2) := by decide +kernel
theorem dX7_orient_117 : decode cX7_orient 117 = .ok (.iastore, 1) := by decide +kernel
theorem dX7_orient_118 : decode cX7_orient 118 = .ok (.aload_n 0, 1) := by decide +kernel
theorem dX7_orient_119 : decode cX7_orient 119 = .ok (.getfield 43, 3) := by decide +kernel
theorem dX7_orient_122 : decode cX7_orient 122 = .ok (.aload_n 0, 1) := by decide +kernel
theorem dX7_orient_123 : decode cX7_orient 123 = .ok (.getfield 152, 3) := by decide +kernel
theorem dX7_orient_126 : decode cX7_orient 126 = .ok (.iload 6, 2) := by decide +kernel
theorem dX7_orient_128 : decode cX7_orient 128 = .ok (.iastore, 1) := by decide +kernel
theorem dX7_orient_129 : decode cX7_orient 129 = .ok (.aload_n 0, 1) := by decide +kernel
theorem dX7_orient_130 : decode cX7_orient 130 = .ok (.dup, 1) := by decide +kernel
theorem dX7_orient_131 : decode cX7_orient 131 = .ok (.getfield 152, 3) := by decide +kernel
theorem dX7_orient_134 : decode cX7_orient 134 = .ok (.iconst 1, 1) := by decide +kernel
theorem dX7_orient_135 : decode cX7_orient 135 = .ok (.iadd, 1) := by decide +kernel
theorem dX7_orient_136 : decode cX7_orient 136 = .ok (.putfield 152, 3) := by decide +kernel
theorem dX7_orient_139 : decode cX7_orient 139 = .ok (.aload_n 0, 1) := by decide +kernel
theorem dX7_orient_140 : decode cX7_orient 140 = .ok (.getfield 152, 3) := by decide +kernel
theorem dX7_orient_143 : decode cX7_orient 143 = .ok (.ireturn, 1) := by decide +kernel
theorem dX7_isPrime_0 : decode cX7_isPrime 0 = .ok (.iload_n 0, 1) := by decide +kernel
theorem dX7_isPrime_1 : decode cX7_isPrime 1 = .ok (.iconst 2, 1) := by decide +kernel
theorem dX7_isPrime_2 : decode cX7_isPrime 2 = .ok (.if_icmp .eq 31, 3) := by decide +kernel
theorem dX7_isPrime_5 : decode cX7_isPrime 5 = .ok (.iload_n 0, 1) := by decide +kernel
theorem dX7_isPrime_6 : decode cX7_isPrime 6 = .ok (.iconst 3, 1) := by decide +kernel
theorem dX7_isPrime_7 : decode cX7_isPrime 7 = .ok (.if_icmp .eq 26, 3) := by decide +kernel
theorem dX7_isPrime_10 : decode cX7_isPrime 10 = .ok (.iload_n 0, 1) := by decide +kernel
theorem dX7_isPrime_11 : decode cX7_isPrime 11 = .ok (.iconst 5, 1) := by decide +kernel
theorem dX7_isPrime_12 : decode cX7_isPrime 12 = .ok (.if_icmp .eq 21, 3) := by decide +kernel
theorem dX7_isPrime_15 : decode cX7_isPrime 15 = .ok (.iload_n 0, 1) := by decide +kernel
theorem dX7_isPrime_16 : decode cX7_isPrime 16 = .ok (.bipush 7, 2) := by decide +kernel
theorem dX7_isPrime_18 : decode cX7_isPrime 18 = .ok (.if_icmp .eq 15, 3) := by decide +kernel
theorem dX7_isPrime_21 : decode cX7_isPrime 21 = .ok (.iload_n 0, 1) := by decide +kernel
theorem dX7_isPrime_22 : decode cX7_isPrime 22 = .ok (.bipush 11, 2) := by decide +kernel
theorem dX7_isPrime_24 : decode cX7_isPrime 24 = .ok (.if_icmp .eq 9, 3) := by decide +kernel
theorem dX7_isPrime_27 : decode cX7_isPrime 27 = .ok (.iload_n 0, 1) := by decide +kernel
theorem dX7_isPrime_28 : decode cX7_isPrime 28 = .ok (.bipush 13, 2) := by decide +kernel
theorem dX7_isPrime_30 : decode cX7_isPrime 30 = .ok (.if_icmp .ne 7, 3) := by decide +kernel
theorem dX7_isPrime_33 : decode cX7_isPrime 33 = .ok (.iconst 1, 1) := by decide +kernel
theorem dX7_isPrime_34 : decode cX7_isPrime 34 = .ok (.goto 4, 3) := by decide +kernel
theorem dX7_isPrime_37 : decode cX7_isPrime 37 = .ok (.iconst 0, 1) := by decide +kernel
theorem dX7_isPrime_38 : decode cX7_isPrime 38 = .ok (.ireturn, 1) := by decide +kernel
theorem dX7_part_0 : decode cX7_part 0 = .ok (.iload_n 0, 1) := by decide +kernel
theorem dX7_part_1 : decode cX7_part 1 = .ok (.ifCond .ne 26, 3) := by decide +kernel
theorem dX7_part_4 : decode cX7_part 4 = .ok (.iload_n 2, 1) := by decide +kernel
theorem dX7_part_5 : decode cX7_part 5 = .ok (.ifCond .ne 7, 3) := by decide +kernel
theorem dX7_part_8 : decode cX7_part 8 = .ok (.iconst 1, 1) := by decide +kernel
theorem dX7_part_9 : decode cX7_part 9 = .ok (.goto 17, 3) := by decide +kernel
theorem dX7_part_12 : decode cX7_part 12 = .ok (.iload_n 2, 1) := by decide +kernel
theorem dX7_part_13 : decode cX7_part 13 = .ok (.iconst 1, 1) := by decide +kernel
theorem dX7_part_14 : decode cX7_part 14 = .ok (.if_icmp .ne 9, 3) := by decide +kernel
theorem dX7_part_17 : decode cX7_part 17 = .ok (.iload_n 1, 1) := by decide +kernel
theorem dX7_part_18 : decode cX7_part 18 = .ok (.iconst 5, 1) := by decide +kernel
theorem dX7_part_19 : decode cX7_part 19 = .ok (.idiv, 1) := by decide +kernel
theorem dX7_part_20 : decode cX7_part 20 = .ok (.goto 6, 3) := by decide +kernel
theorem dX7_part_23 : decode cX7_part 23 = .ok (.iload_n 1, 1) := by decide +kernel
theorem dX7_part_24 : decode cX7_part 24 = .ok (.iconst 5, 1) := by decide +kernel
theorem dX7_part_25 : decode cX7_part 25 = .ok (.irem, 1) := by decide +kernel
theorem dX7_part_26 : decode cX7_part 26 = .ok (.ireturn, 1) := by decide +kernel
theorem dX7_part_27 : decode cX7_part 27 = .ok (.iload_n 1, 1) := by decide +kernel
theorem dX7_part_28 : decode cX7_part 28 = .ok (.ifCond .ne 14, 3) := by decide +kernel
theorem dX7_part_31 : decode cX7_part 31 = .ok (.iload_n 2, 1) := by decide +kernel
theorem dX7_part_32 : decode cX7_part 32 = .ok (.iconst 2, 1) := by decide +kernel
theorem dX7_part_33 : decode cX7_part 33 = .ok (.if_icmp .ne 7, 3) := by decide +kernel
theorem dX7_part_36 : decode cX7_part 36 = .ok (.iconst 1, 1) := by decide +kernel
theorem dX7_part_37 : decode cX7_part 37 = .ok (.goto 4, 3) := by decide +kernel
theorem dX7_part_40 : decode cX7_part 40 = .ok (.iconst 0, 1) := by decide +kernel
theorem dX7_part_41 : decode cX7_part 41 = .ok (.ireturn, 1) := by decide +kernel
theorem dX7_part_42 : decode cX7_part 42 = .ok (.iload_n 1, 1) := by decide +kernel
theorem dX7_part_43 : decode cX7_part 43 = .ok (.iload_n 0, 1) := by decide +kernel
theorem dX7_part_44 : decode cX7_part 44 = .ok (.if_icmp .gt 24, 3) := by decide +kernel
theorem dX7_part_47 : decode cX7_part 47 = .ok (.iload_n 2, 1) := by decide +kernel
theorem dX7_part_48 : decode cX7_part 48 = .ok (.ifCond .ne 7, 3) := by decide +kernel
theorem dX7_part_51 : decode cX7_part 51 = .ok (.iconst 0, 1) := by decide +kernel
theorem dX7_part_52 : decode cX7_part 52 = .ok (.goto 15, 3) := by decide +kernel
theorem dX7_part_55 : decode cX7_part 55 = .ok (.iload_n 2, 1) := by decide +kernel
theorem dX7_part_56 : decode cX7_part 56 = .ok (.iconst 1, 1) := by decide +kernel
theorem dX7_part_57 : decode cX7_part 57 = .ok (.if_icmp .ne 7, 3) := by decide +kernel
theorem dX7_part_60 : decode cX7_part 60 = .ok (.iconst 1, 1) := by decide +kernel
theorem dX7_part_61 : decode cX7_part 61 = .ok (.goto 6, 3) := by decide +kernel
theorem dX7_part_64 : decode cX7_part 64 = .ok (.iload_n 1, 1) := by decide +kernel
theorem dX7_part_65 : decode cX7_part 65 = .ok (.iconst 1, 1) := by decide +kernel
theorem dX7_part_66 : decode cX7_part 66 = .ok (.isub, 1) := by decide +kernel
theorem dX7_part_67 : decode cX7_part 67 = .ok (.ireturn, 1) := by decide +kernel
theorem dX7_part_68 : decode cX7_part 68 = .ok (.iload_n 2, 1) := by decide +kernel
theorem dX7_part_69 : decode cX7_part 69 = .ok (.ifCond .ne 7, 3) := by decide +kernel
theorem dX7_part_72 : decode cX7_part 72 = .ok (.iconst 1, 1) := by decide +kernel
theorem dX7_part_73 : decode cX7_part 73 = .ok (.goto 25, 3) := by decide +kernel
theorem dX7_part_76 : decode cX7_part 76 = .ok (.iload_n 2, 1) := by decide +kernel
theorem dX7_part_77 : decode cX7_part 77 = .ok (.iconst 1, 1) := by decide +kernel
theorem dX7_part_78 : decode cX7_part 78 = .ok (.if_icmp .ne 13, 3) := by decide +kernel
theorem dX7_part_81 : decode cX7_part 81 = .ok (.iload_n 1, 1) := by decide +kernel
theorem dX7_part_82 : decode cX7_part 82 = .ok (.iload_n 0, 1) := by decide +kernel
theorem dX7_part_83 : decode cX7_part 83 = .ok (.isub, 1) := by decide +kernel
theorem dX7_part_84 : decode cX7_part 84 = .ok (.iconst 1, 1) := by decide +kernel
theorem dX7_part_85 : decode cX7_part 85 = .ok (.isub, 1) := by decide +kernel
theorem dX7_part_86 : decode cX7_part 86 = .ok (.iload_n 0, 1) := by decide +kernel
theorem dX7_part_87 : decode cX7_part 87 = .ok (.idiv, 1) := by decide +kernel
theorem dX7_part_88 : decode cX7_part 88 = .ok (.goto 10, 3) := by decide +kernel
theorem dX7_part_91 : decode cX7_part 91 = .ok (.iload_n 1, 1) := by decide +kernel
theorem dX7_part_92 : decode cX7_part 92 = .ok (.iload_n 0, 1) := by decide +kernel
theorem dX7_part_93 : decode cX7_part 93 = .ok (.isub, 1) := by decide +kernel
theorem dX7_part_94 : decode cX7_part 94 = .ok (.iconst 1, 1) := by decide +kernel
theorem dX7_part_95 : decode cX7_part 95 = .ok (.isub, 1) := by decide +kernel
theorem dX7_part_96 : decode cX7_part 96 = .ok (.iload_n 0, 1) := by decide +kernel
theorem dX7_part_97 : decode cX7_part 97 = .ok (.irem, 1) := by decide +kernel
theorem dX7_part_98 : decode cX7_part 98 = .ok (.ireturn, 1) := by decide +kernel
theorem dX7_placesOf_0 : decode cX7_placesOf 0 = .ok (.iload_n 0, 1) := by decide +kernel
theorem dX7_placesOf_1 : decode cX7_placesOf 1 = .ok (.ifCond .ne 8, 3) := by decide +kernel
theorem dX7_placesOf_4 : decode cX7_placesOf 4 = .ok (.bipush 25, 2) := by decide +kernel
theorem dX7_placesOf_6 : decode cX7_placesOf 6 = .ok (.goto 10, 3) := by decide +kernel
theorem dX7_placesOf_9 : decode cX7_placesOf 9 = .ok (.iload_n 0, 1) := by decide +kernel
theorem dX7_placesOf_10 : decode cX7_placesOf 10 = .ok (.iload_n 0, 1) := by decide +kernel
theorem dX7_placesOf_11 : decode cX7_placesOf 11 = .ok (.imul, 1) := by decide +kernel
theorem dX7_placesOf_12 : decode cX7_placesOf 12 = .ok (.iload_n 0, 1) := by decide +kernel
theorem dX7_placesOf_13 : decode cX7_placesOf 13 = .ok (.iadd, 1) := by decide +kernel
theorem dX7_placesOf_14 : decode cX7_placesOf 14 = .ok (.iconst 1, 1) := by decide +kernel
theorem dX7_placesOf_15 : decode cX7_placesOf 15 = .ok (.iadd, 1) := by decide +kernel
theorem dX7_placesOf_16 : decode cX7_placesOf 16 = .ok (.ireturn, 1) := by decide +kernel
set_option maxRecDepth 20000 in
theorem ggX7_layField_X7_placesOf : GoodIn wsX7_layField wsX7_placesOf := goodIn_r _ [8] (by decide +kernel) (by decide +kernel)
set_option maxRecDepth 20000 in
theorem gX7_layField_X7_placesOf : GoodIn wsX7_layField (va_wsS RX7 189 yX7_placesOf wsX7_placesOf) := goodIn_app (goodIn_of _ (by decide +kernel)) ggX7_layField_X7_placesOf
set_option maxRecDepth 20000 in
theorem ggX7_layField_X7_part : GoodIn wsX7_layField wsX7_part := goodIn_r _ [11] (by decide +kernel) (by decide +kernel)
set_option maxRecDepth 20000 in
theorem gX7_layField_X7_part : GoodIn wsX7_layField (va_wsS RX7 192 yX7_part wsX7_part) := goodIn_app (goodIn_of _ (by decide +kernel)) ggX7_layField_X7_part
theorem dX7_layField_0 : decode cX7_layField 0 = .ok (.iconst 0, 1) := by decide +kernel
theorem dX7_layField_1 : decode cX7_layField 1 = .ok (.istore_n 2, 1) := by decide +kernel
theorem dX7_layField_2 : decode cX7_layField 2 = .ok (.iload_n 2, 1) := by decide +kernel
theorem dX7_layField_3 : decode cX7_layField 3 = .ok (.iload_n 1, 1) := by decide +kernel
theorem dX7_layField_4 : decode cX7_layField 4 = .ok (.invokestatic 189, 3) := by decide +kernel
theorem dX7_layField_7 : decode cX7_layField 7 = .ok (.if_icmp .ge 53, 3) := by decide +kernel
theorem dX7_layField_10 : decode cX7_layField 10 = .ok (.iload_n 1, 1) := by decide +kernel
theorem dX7_layField_11 : decode cX7_layField 11 = .ok (.aload_n 0, 1) := by decide +kernel
theorem dX7_layField_12 : decode cX7_layField 12 = .ok (.getfield 55, 3) := by decide +kernel
theorem dX7_layField_15 : decode cX7_layField 15 = .ok (.if_icmp .eq 45, 3) := by decide +kernel
theorem dX7_layField_18 : decode cX7_layField 18 = .ok (.aload_n 0, 1) := by decide +kernel
theorem dX7_layField_19 : decode cX7_layField 19 = .ok (.getfield 59, 3) := by decide +kernel
theorem dX7_layField_22 : decode cX7_layField 22 = .ok (.iload_n 2, 1) := by decide +kernel
theorem dX7_layField_23 : decode cX7_layField 23 = .ok (.iload_n 1, 1) := by decide +kernel
theorem dX7_layField_24 : decode cX7_layField 24 = .ok (.iload_n 2, 1) := by decide +kernel
theorem dX7_layField_25 : decode cX7_layField 25 = .ok (.iconst 0, 1) := by decide +kernel
theorem dX7_layField_26 : decode cX7_layField 26 = .ok (.invokestatic 192, 3) := by decide +kernel
theorem dX7_layField_29 : decode cX7_layField 29 = .ok (.iastore, 1) := by decide +kernel
theorem dX7_layField_30 : decode cX7_layField 30 = .ok (.aload_n 0, 1) := by decide +kernel
theorem dX7_layField_31 : decode cX7_layField 31 = .ok (.getfield 62, 3) := by decide +kernel
theorem dX7_layField_34 : decode cX7_layField 34 = .ok (.iload_n 2, 1) := by decide +kernel
theorem dX7_layField_35 : decode cX7_layField 35 = .ok (.iload_n 1, 1) := by decide +kernel
theorem dX7_layField_36 : decode cX7_layField 36 = .ok (.iload_n 2, 1) := by decide +kernel
theorem dX7_layField_37 : decode cX7_layField 37 = .ok (.iconst 1, 1) := by decide +kernel
theorem dX7_layField_38 : decode cX7_layField 38 = .ok (.invokestatic 192, 3) := by decide +kernel
theorem dX7_layField_41 : decode cX7_layField 41 = .ok (.iastore, 1) := by decide +kernel
theorem dX7_layField_42 : decode cX7_layField 42 = .ok (.aload_n 0, 1) := by decide +kernel
theorem dX7_layField_43 : decode cX7_layField 43 = .ok (.getfield 65, 3) := by decide +kernel
theorem dX7_layField_46 : decode cX7_layField 46 = .ok (.iload_n 2, 1) := by decide +kernel
theorem dX7_layField_47 : decode cX7_layField 47 = .ok (.iload_n 1, 1) := by decide +kernel
theorem dX7_layField_48 : decode cX7_layField 48 = .ok (.iload_n 2, 1) := by decide +kernel
theorem dX7_layField_49 : decode cX7_layField 49 = .ok (.iconst 2, 1) := by decide +kernel
theorem dX7_layField_50 : decode cX7_layField 50 = .ok (.invokestatic 192, 3) := by decide +kernel
theorem dX7_layField_53 : decode cX7_layField 53 = .ok (.iastore, 1) := by decide +kernel
theorem dX7_layField_54 : decode cX7_layField 54 = .ok (.iinc 2 1, 3) := by decide +kernel
theorem dX7_layField_57 : decode cX7_layField 57 = .ok (.goto (-55), 3) := by decide +kernel
theorem dX7_layField_60 : decode cX7_layField 60 = .ok (.aload_n 0, 1) := by decide +kernel
theorem dX7_layField_61 : decode cX7_layField 61 = .ok (.iload_n 1, 1) := by decide +kernel
theorem dX7_layField_62 : decode cX7_layField 62 = .ok (.putfield 55, 3) := by decide +kernel
theorem dX7_layField_65 : decode cX7_layField 65 = .ok (.return_, 1) := by decide +kernel
theorem dX7_valueOf_0 : decode cX7_valueOf 0 = .ok (.aload_n 0, 1) := by decide +kernel
theorem dX7_valueOf_1 : decode cX7_valueOf 1 = .ok (.getfield 59, 3) := by decide +kernel
theorem dX7_valueOf_4 : decode cX7_valueOf 4 = .ok (.iload_n 2, 1) := by decide +kernel
theorem dX7_valueOf_5 : decode cX7_valueOf 5 = .ok (.iaload, 1) := by decide +kernel
theorem dX7_valueOf_6 : decode cX7_valueOf 6 = .ok (.aload_n 0, 1) := by decide +kernel
theorem dX7_valueOf_7 : decode cX7_valueOf 7 = .ok (.getfield 62, 3) := by decide +kernel
theorem dX7_valueOf_10 : decode cX7_valueOf 10 = .ok (.iload_n 3, 1) := by decide +kernel
theorem dX7_valueOf_11 : decode cX7_valueOf 11 = .ok (.iaload, 1) := by decide +kernel
theorem dX7_valueOf_12 : decode cX7_valueOf 12 = .ok (.aload_n 0, 1) := by decide +kernel
theorem dX7_valueOf_13 : decode cX7_valueOf 13 = .ok (.getfield 65, 3) := by decide +kernel
theorem dX7_valueOf_16 : decode cX7_valueOf 16 = .ok (.iload 4, 2) := by decide +kernel
theorem dX7_valueOf_18 : decode cX7_valueOf 18 = .ok (.iaload, 1) := by decide +kernel
theorem dX7_valueOf_19 : decode cX7_valueOf 19 = .ok (.imul, 1) := by decide +kernel
theorem dX7_valueOf_20 : decode cX7_valueOf 20 = .ok (.aload_n 0, 1) := by decide +kernel
theorem dX7_valueOf_21 : decode cX7_valueOf 21 = .ok (.getfield 65, 3) := by decide +kernel
theorem dX7_valueOf_24 : decode cX7_valueOf 24 = .ok (.iload_n 3, 1) := by decide +kernel
theorem dX7_valueOf_25 : decode cX7_valueOf 25 = .ok (.iaload, 1) := by decide +kernel
theorem dX7_valueOf_26 : decode cX7_valueOf 26 = .ok (.aload_n 0, 1) := by decide +kernel
theorem dX7_valueOf_27 : decode cX7_valueOf 27 = .ok (.getfield 62, 3) := by decide +kernel
theorem dX7_valueOf_30 : decode cX7_valueOf 30 = .ok (.iload 4, 2) := by decide +kernel
theorem dX7_valueOf_32 : decode cX7_valueOf 32 = .ok (.iaload, 1) := by decide +kernel
theorem dX7_valueOf_33 : decode cX7_valueOf 33 = .ok (.imul, 1) := by decide +kernel
theorem dX7_valueOf_34 : decode cX7_valueOf 34 = .ok (.isub, 1) := by decide +kernel
theorem dX7_valueOf_35 : decode cX7_valueOf 35 = .ok (.imul, 1) := by decide +kernel
theorem dX7_valueOf_36 : decode cX7_valueOf 36 = .ok (.aload_n 0, 1) := by decide +kernel
theorem dX7_valueOf_37 : decode cX7_valueOf 37 = .ok (.getfield 62, 3) := by decide +kernel
theorem dX7_valueOf_40 : decode cX7_valueOf 40 = .ok (.iload_n 2, 1) := by decide +kernel
theorem dX7_valueOf_41 : decode cX7_valueOf 41 = .ok (.iaload, 1) := by decide +kernel
theorem dX7_valueOf_42 : decode cX7_valueOf 42 = .ok (.aload_n 0, 1) := by decide +kernel
theorem dX7_valueOf_43 : decode cX7_valueOf 43 = .ok (.getfield 59, 3) := by decide +kernel
theorem dX7_valueOf_46 : decode cX7_valueOf 46 = .ok (.iload_n 3, 1) := by decide +kernel
theorem dX7_valueOf_47 : decode cX7_valueOf 47 = .ok (.iaload, 1) := by decide +kernel
theorem dX7_valueOf_48 : decode cX7_valueOf 48 = .ok (.aload_n 0, 1) := by decide +kernel
theorem dX7_valueOf_49 : decode cX7_valueOf 49 = .ok (.getfield 65, 3) := by decide +kernel
theorem dX7_valueOf_52 : decode cX7_valueOf 52 = .ok (.iload 4, 2) := by decide +kernel
theorem dX7_valueOf_54 : decode cX7_valueOf 54 = .ok (.iaload, 1) := by decide +kernel
theorem dX7_valueOf_55 : decode cX7_valueOf 55 = .ok (.imul, 1) := by decide +kernel
theorem dX7_valueOf_56 : decode cX7_valueOf 56 = .ok (.aload_n 0, 1) := by decide +kernel
theorem dX7_valueOf_57 : decode cX7_valueOf 57 = .ok (.getfield 65, 3) := by decide +kernel
theorem dX7_valueOf_60 : decode cX7_valueOf 60 = .ok (.iload_n 3, 1) := by decide +kernel
theorem dX7_valueOf_61 : decode cX7_valueOf 61 = .ok (.iaload, 1) := by decide +kernel
theorem dX7_valueOf_62 : decode cX7_valueOf 62 = .ok (.aload_n 0, 1) := by decide +kernel
theorem dX7_valueOf_63 : decode cX7_valueOf 63 = .ok (.getfield 59, 3) := by decide +kernel
theorem dX7_valueOf_66 : decode cX7_valueOf 66 = .ok (.iload 4, 2) := by decide +kernel
theorem dX7_valueOf_68 : decode cX7_valueOf 68 = .ok (.iaload, 1) := by decide +kernel
theorem dX7_valueOf_69 : decode cX7_valueOf 69 = .ok (.imul, 1) := by decide +kernel
theorem dX7_valueOf_70 : decode cX7_valueOf 70 = .ok (.isub, 1) := by decide +kernel
theorem dX7_valueOf_71 : decode cX7_valueOf 71 = .ok (.imul, 1) := by decide +kernel
theorem dX7_valueOf_72 : decode cX7_valueOf 72 = .ok (.isub, 1) := by decide +kernel
theorem dX7_valueOf_73 : decode cX7_valueOf 73 = .ok (.aload_n 0, 1) := by decide +kernel
theorem dX7_valueOf_74 : decode cX7_valueOf 74 = .ok (.getfield 65, 3) := by decide +kernel
theorem dX7_valueOf_77 : decode cX7_valueOf 77 = .ok (.iload_n 2, 1) := by decide +kernel
theorem dX7_valueOf_78 : decode cX7_valueOf 78 = .ok (.iaload, 1) := by decide +kernel
theorem dX7_valueOf_79 : decode cX7_valueOf 79 = .ok (.aload_n 0, 1) := by decide +kernel
theorem dX7_valueOf_80 : decode cX7_valueOf 80 = .ok (.getfield 59, 3) := by decide +kernel
theorem dX7_valueOf_83 : decode cX7_valueOf 83 = .ok (.iload_n 3, 1) := by decide +kernel
theorem dX7_valueOf_84 : decode cX7_valueOf 84 = .ok (.iaload, 1) := by decide +kernel
theorem dX7_valueOf_85 : decode cX7_valueOf 85 = .ok (.aload_n 0, 1) := by decide +kernel
theorem dX7_valueOf_86 : decode cX7_valueOf 86 = .ok (.getfield 62, 3) := by decide +kernel
theorem dX7_valueOf_89 : decode cX7_valueOf 89 = .ok (.iload 4, 2) := by decide +kernel
theorem dX7_valueOf_91 : decode cX7_valueOf 91 = .ok (.iaload, 1) := by decide +kernel
theorem dX7_valueOf_92 : decode cX7_valueOf 92 = .ok (.imul, 1) := by decide +kernel
theorem dX7_valueOf_93 : decode cX7_valueOf 93 = .ok (.aload_n 0, 1) := by decide +kernel
theorem dX7_valueOf_94 : decode cX7_valueOf 94 = .ok (.getfield 62, 3) := by decide +kernel
theorem dX7_valueOf_97 : decode cX7_valueOf 97 = .ok (.iload_n 3, 1) := by decide +kernel
theorem dX7_valueOf_98 : decode cX7_valueOf 98 = .ok (.iaload, 1) := by decide +kernel
theorem dX7_valueOf_99 : decode cX7_valueOf 99 = .ok (.aload_n 0, 1) := by decide +kernel
theorem dX7_valueOf_100 : decode cX7_valueOf 100 = .ok (.getfield 59, 3) := by decide +kernel
theorem dX7_valueOf_103 : decode cX7_valueOf 103 = .ok (.iload 4, 2) := by decide +kernel
theorem dX7_valueOf_105 : decode cX7_valueOf 105 = .ok (.iaload, 1) := by decide +kernel
theorem dX7_valueOf_106 : decode cX7_valueOf 106 = .ok (.imul, 1) := by decide +kernel
theorem dX7_valueOf_107 : decode cX7_valueOf 107 = .ok (.isub, 1) := by decide +kernel
theorem dX7_valueOf_108 : decode cX7_valueOf 108 = .ok (.imul, 1) := by decide +kernel
theorem dX7_valueOf_109 : decode cX7_valueOf 109 = .ok (.iadd, 1) := by decide +kernel
theorem dX7_valueOf_110 : decode cX7_valueOf 110 = .ok (.istore 5, 2) := by decide +kernel
theorem dX7_valueOf_112 : decode cX7_valueOf 112 = .ok (.iload_n 1, 1) := by decide +kernel
theorem dX7_valueOf_113 : decode cX7_valueOf 113 = .ok (.ifCond .ne 8, 3) := by decide +kernel
theorem dX7_valueOf_116 : decode cX7_valueOf 116 = .ok (.iload 5, 2) := by decide +kernel
theorem dX7_valueOf_118 : decode cX7_valueOf 118 = .ok (.goto 11, 3) := by decide +kernel
theorem dX7_valueOf_121 : decode cX7_valueOf 121 = .ok (.iload 5, 2) := by decide +kernel
theorem dX7_valueOf_123 : decode cX7_valueOf 123 = .ok (.iload_n 1, 1) := by decide +kernel
theorem dX7_valueOf_124 : decode cX7_valueOf 124 = .ok (.irem, 1) := by decide +kernel
theorem dX7_valueOf_125 : decode cX7_valueOf 125 = .ok (.iload_n 1, 1) := by decide +kernel
theorem dX7_valueOf_126 : decode cX7_valueOf 126 = .ok (.iadd, 1) := by decide +kernel
theorem dX7_valueOf_127 : decode cX7_valueOf 127 = .ok (.iload_n 1, 1) := by decide +kernel
theorem dX7_valueOf_128 : decode cX7_valueOf 128 = .ok (.irem, 1) := by decide +kernel
theorem dX7_valueOf_129 : decode cX7_valueOf 129 = .ok (.ireturn, 1) := by decide +kernel
set_option maxRecDepth 20000 in
theorem ggX7_layWants_X7_layField : GoodIn wsX7_layWants wsX7_layField := goodIn_r _ [8, 9, 10, 11, 12, 13, 14, 7, 15, 16, 17, 18, 40, 41, 42, 43, 44, 45, 46, 47, 48, 49, 50, 51, 52, 53, 54, 55, 56, 57, 58, 59, 60, 61, 62, 63, 64, 65, 66, 67, 68, 69, 70, 71, 72, 73, 74, 75, 76, 77, 78, 79, 80, 81, 82, 83, 84, 85, 86, 87, 88, 89, 90, 91, 92] (by decide +kernel) (by decide +kernel)
set_option maxRecDepth 20000 in
theorem gX7_layWants_X7_layField : GoodIn wsX7_layWants (wsV RX7 195 RX7 yX7_layField wsX7_layField) := goodIn_app (goodIn_of _ (by decide +kernel)) ggX7_layWants_X7_layField
set_option maxRecDepth 20000 in
theorem ggX7_layWants_X7_maskOf : GoodIn wsX7_layWants wsX7_maskOf := goodIn_r _ [21] (by decide +kernel) (by decide +kernel)
set_option maxRecDepth 20000 in
theorem gX7_layWants_X7_maskOf : GoodIn wsX7_layWants (va_wsS RX7 171 yX7_maskOf wsX7_maskOf) := goodIn_app (goodIn_of _ (by decide +kernel)) ggX7_layWants_X7_maskOf
set_option maxRecDepth 20000 in
theorem ggX7_layWants_X7_orientAt : GoodIn wsX7_layWants wsX7_orientAt := goodIn_r _ [25, 26, 27, 40, 41, 42, 43, 44, 45, 46, 47, 48, 49, 50, 51, 52, 53, 54, 55, 56, 57, 58, 59, 60, 61, 62, 63, 64, 65, 66, 67, 68, 69, 70, 71, 72, 73, 74, 75, 76, 77, 78, 79, 80, 81, 82, 83, 84, 85, 86, 87, 88, 89, 90, 91, 92] (by decide +kernel) (by decide +kernel)
set_option maxRecDepth 20000 in
theorem gX7_layWants_X7_orientAt : GoodIn wsX7_layWants (wsV RX7 186 RX7 yX7_orientAt wsX7_orientAt) := goodIn_app (goodIn_of _ (by decide +kernel)) ggX7_layWants_X7_orientAt
set_option maxRecDepth 20000 in
theorem ggX7_layWants_X7_barAt : GoodIn wsX7_layWants wsX7_barAt := goodIn_r _ [31, 32, 33, 40, 41, 42, 43, 44, 45, 46, 47, 48, 49, 50, 51, 52, 53, 54, 55, 56, 57, 58, 59, 60, 61, 62, 63, 64, 65, 66, 67, 68, 69, 70, 71, 72, 73, 74, 75, 76, 77, 78, 79, 80, 81, 82, 83, 84, 85, 86, 87, 88, 89, 90, 91, 92] (by decide +kernel) (by decide +kernel)
set_option maxRecDepth 20000 in
theorem gX7_layWants_X7_barAt : GoodIn wsX7_layWants (wsV RX7 179 RX7 yX7_barAt wsX7_barAt) := goodIn_app (goodIn_of _ (by decide +kernel)) ggX7_layWants_X7_barAt
set_option maxRecDepth 20000 in
theorem ggX7_layWants_X7_isFlat : GoodIn wsX7_layWants wsX7_isFlat := goodIn_r _ [37, 38, 39, 40, 41, 42, 43, 44, 45, 46, 47, 48, 49, 50, 51, 52, 53, 54, 55, 56, 57, 58, 59, 60, 61, 62, 63, 64, 65, 66, 67, 68, 69, 70, 71, 72, 73, 74, 75, 76, 77, 78, 79, 80, 81, 82, 83, 84, 85, 86, 87, 88, 89, 90, 91, 92] (by decide +kernel) (by decide +kernel)
set_option maxRecDepth 20000 in
theorem gX7_layWants_X7_isFlat : GoodIn wsX7_layWants (wsV RX7 175 RX7 yX7_isFlat wsX7_isFlat) := goodIn_app (goodIn_of _ (by decide +kernel)) ggX7_layWants_X7_isFlat
theorem dX7_layWants_0 : decode cX7_layWants 0 = .ok (.aload_n 0, 1) := by decide +kernel
theorem dX7_layWants_1 : decode cX7_layWants 1 = .ok (.iload_n 1, 1) := by decide +kernel
theorem dX7_layWants_2 : decode cX7_layWants 2 = .ok (.invokevirtual 195, 3) := by decide +kernel
theorem dX7_layWants_5 : decode cX7_layWants 5 = .ok (.iconst 0, 1) := by decide +kernel
theorem dX7_layWants_6 : decode cX7_layWants 6 = .ok (.istore_n 2, 1) := by decide +kernel
theorem dX7_layWants_7 : decode cX7_layWants 7 = .ok (.iload_n 2, 1) := by decide +kernel
theorem dX7_layWants_8 : decode cX7_layWants 8 = .ok (.aload_n 0, 1) := by decide +kernel
theorem dX7_layWants_9 : decode cX7_layWants 9 = .ok (.getfield 143, 3) := by decide +kernel
theorem dX7_layWants_12 : decode cX7_layWants 12 = .ok (.if_icmp .ge 150, 3) := by decide +kernel
theorem dX7_layWants_15 : decode cX7_layWants 15 = .ok (.iload_n 2, 1) := by decide +kernel
theorem dX7_layWants_16 : decode cX7_layWants 16 = .ok (.iconst 1, 1) := by decide +kernel
theorem dX7_layWants_17 : decode cX7_layWants 17 = .ok (.iadd, 1) := by decide +kernel
theorem dX7_layWants_18 : decode cX7_layWants 18 = .ok (.istore_n 3, 1) := by decide +kernel
theorem dX7_layWants_19 : decode cX7_layWants 19 = .ok (.iload_n 3, 1) := by decide +kernel
theorem dX7_layWants_20 : decode cX7_layWants 20 = .ok (.aload_n 0, 1) := by decide +kernel
theorem dX7_layWants_21 : decode cX7_layWants 21 = .ok (.getfield 143, 3) := by decide +kernel
theorem dX7_layWants_24 : decode cX7_layWants 24 = .ok (.if_icmp .ge 132, 3) := by decide +kernel
theorem dX7_layWants_27 : decode cX7_layWants 27 = .ok (.iload_n 3, 1) := by decide +kernel
theorem dX7_layWants_28 : decode cX7_layWants 28 = .ok (.iconst 1, 1) := by decide +kernel
theorem dX7_layWants_29 : decode cX7_layWants 29 = .ok (.iadd, 1) := by decide +kernel
theorem dX7_layWants_30 : decode cX7_layWants 30 = .ok (.istore 4, 2) := by decide +kernel
theorem dX7_layWants_32 : decode cX7_layWants 32 = .ok (.iload 4, 2) := by decide +kernel
theorem dX7_layWants_34 : decode cX7_layWants 34 = .ok (.aload_n 0, 1) := by decide +kernel
theorem dX7_layWants_35 : decode cX7_layWants 35 = .ok (.getfield 143, 3) := by decide +kernel
theorem dX7_layWants_38 : decode cX7_layWants 38 = .ok (.if_icmp .ge 112, 3) := by decide +kernel
theorem dX7_layWants_41 : decode cX7_layWants 41 = .ok (.iload_n 2, 1) := by decide +kernel
theorem dX7_layWants_42 : decode cX7_layWants 42 = .ok (.iload_n 3, 1) := by decide +kernel
theorem dX7_layWants_43 : decode cX7_layWants 43 = .ok (.iload 4, 2) := by decide +kernel
theorem dX7_layWants_45 : decode cX7_layWants 45 = .ok (.invokestatic 171, 3) := by decide +kernel
theorem dX7_layWants_48 : decode cX7_layWants 48 = .ok (.istore 5, 2) := by decide +kernel
theorem dX7_layWants_50 : decode cX7_layWants 50 = .ok (.aload_n 0, 1) := by decide +kernel
theorem dX7_layWants_51 : decode cX7_layWants 51 = .ok (.iload 5, 2) := by decide +kernel
theorem dX7_layWants_53 : decode cX7_layWants 53 = .ok (.invokevirtual 186, 3) := by decide +kernel
theorem dX7_layWants_56 : decode cX7_layWants 56 = .ok (.istore 6, 2) := by decide +kernel
theorem dX7_layWants_58 : decode cX7_layWants 58 = .ok (.iload 6, 2) := by decide +kernel
theorem dX7_layWants_60 : decode cX7_layWants 60 = .ok (.bipush (-4), 2) := by decide +kernel
theorem dX7_layWants_62 : decode cX7_layWants 62 = .ok (.if_icmp .ne 18, 3) := by decide +kernel
theorem dX7_layWants_65 : decode cX7_layWants 65 = .ok (.aload_n 0, 1) := by decide +kernel
theorem dX7_layWants_66 : decode cX7_layWants 66 = .ok (.iload 5, 2) := by decide +kernel
theorem dX7_layWants_68 : decode cX7_layWants 68 = .ok (.invokevirtual 179, 3) := by decide +kernel
theorem dX7_layWants_71 : decode cX7_layWants 71 = .ok (.bipush (-4), 2) := by decide +kernel
theorem dX7_layWants_73 : decode cX7_layWants 73 = .ok (.if_icmp .ne 7, 3) := by decide +kernel
theorem dX7_layWants_76 : decode cX7_layWants 76 = .ok (.iconst 0, 1) := by decide +kernel
theorem dX7_layWants_77 : decode cX7_layWants 77 = .ok (.goto 33, 3) := by decide +kernel
theorem dX7_layWants_80 : decode cX7_layWants 80 = .ok (.iload 6, 2) := by decide +kernel
theorem dX7_layWants_82 : decode cX7_layWants 82 = .ok (.bipush (-4), 2) := by decide +kernel
theorem dX7_layWants_84 : decode cX7_layWants 84 = .ok (.if_icmp .eq 7, 3) := by decide +kernel
theorem dX7_layWants_87 : decode cX7_layWants 87 = .ok (.iload_n 1, 1) := by decide +kernel
theorem dX7_layWants_88 : decode cX7_layWants 88 = .ok (.ifCond .le 7, 3) := by decide +kernel
theorem dX7_layWants_91 : decode cX7_layWants 91 = .ok (.iconst 2, 1) := by decide +kernel
theorem dX7_layWants_92 : decode cX7_layWants 92 = .ok (.goto 18, 3) := by decide +kernel
theorem dX7_layWants_95 : decode cX7_layWants 95 = .ok (.aload_n 0, 1) := by decide +kernel
theorem dX7_layWants_96 : decode cX7_layWants 96 = .ok (.getfield 43, 3) := by decide +kernel
theorem dX7_layWants_99 : decode cX7_layWants 99 = .ok (.iload 6, 2) := by decide +kernel
theorem dX7_layWants_101 : decode cX7_layWants 101 = .ok (.iaload, 1) := by decide +kernel
theorem dX7_layWants_102 : decode cX7_layWants 102 = .ok (.ifCond .le 7, 3) := by decide +kernel
theorem dX7_layWants_105 : decode cX7_layWants 105 = .ok (.iconst 3, 1) := by decide +kernel
theorem dX7_layWants_106 : decode cX7_layWants 106 = .ok (.goto 4, 3) := by decide +kernel
theorem dX7_layWants_109 : decode cX7_layWants 109 = .ok (.iconst 4, 1) := by decide +kernel
theorem dX7_layWants_110 : decode cX7_layWants 110 = .ok (.istore 7, 2) := by decide +kernel
theorem dX7_layWants_112 : decode cX7_layWants 112 = .ok (.aload_n 0, 1) := by decide +kernel
theorem dX7_layWants_113 : decode cX7_layWants 113 = .ok (.getfield 68, 3) := by decide +kernel
theorem dX7_layWants_116 : decode cX7_layWants 116 = .ok (.bipush 100, 2) := by decide +kernel
theorem dX7_layWants_118 : decode cX7_layWants 118 = .ok (.iload_n 2, 1) := by decide +kernel
theorem dX7_layWants_119 : decode cX7_layWants 119 = .ok (.imul, 1) := by decide +kernel
theorem dX7_layWants_120 : decode cX7_layWants 120 = .ok (.bipush 10, 2) := by decide +kernel
theorem dX7_layWants_122 : decode cX7_layWants 122 = .ok (.iload_n 3, 1) := by decide +kernel
theorem dX7_layWants_123 : decode cX7_layWants 123 = .ok (.imul, 1) := by decide +kernel
theorem dX7_layWants_124 : decode cX7_layWants 124 = .ok (.iadd, 1) := by decide +kernel
theorem dX7_layWants_125 : decode cX7_layWants 125 = .ok (.iload 4, 2) := by decide +kernel
theorem dX7_layWants_127 : decode cX7_layWants 127 = .ok (.iadd, 1) := by decide +kernel
theorem dX7_layWants_128 : decode cX7_layWants 128 = .ok (.aload_n 0, 1) := by decide +kernel
theorem dX7_layWants_129 : decode cX7_layWants 129 = .ok (.iload 5, 2) := by decide +kernel
theorem dX7_layWants_131 : decode cX7_layWants 131 = .ok (.invokevirtual 175, 3) := by decide +kernel
theorem dX7_layWants_134 : decode cX7_layWants 134 = .ok (.ifCond .eq 7, 3) := by decide +kernel
theorem dX7_layWants_137 : decode cX7_layWants 137 = .ok (.iconst 1, 1) := by decide +kernel
theorem dX7_layWants_138 : decode cX7_layWants 138 = .ok (.goto 5, 3) := by decide +kernel
theorem dX7_layWants_141 : decode cX7_layWants 141 = .ok (.iload 7, 2) := by decide +kernel
theorem dX7_layWants_143 : decode cX7_layWants 143 = .ok (.iastore, 1) := by decide +kernel
theorem dX7_layWants_144 : decode cX7_layWants 144 = .ok (.iinc 4 1, 3) := by decide +kernel
theorem dX7_layWants_147 : decode cX7_layWants 147 = .ok (.goto (-115), 3) := by decide +kernel
theorem dX7_layWants_150 : decode cX7_layWants 150 = .ok (.iinc 3 1, 3) := by decide +kernel
theorem dX7_layWants_153 : decode cX7_layWants 153 = .ok (.goto (-134), 3) := by decide +kernel
theorem dX7_layWants_156 : decode cX7_layWants 156 = .ok (.iinc 2 1, 3) := by decide +kernel
theorem dX7_layWants_159 : decode cX7_layWants 159 = .ok (.goto (-152), 3) := by decide +kernel
theorem dX7_layWants_162 : decode cX7_layWants 162 = .ok (.return_, 1) := by decide +kernel
set_option maxRecDepth 20000 in
theorem ggX7_isRight_X7_valueOf : GoodIn wsX7_isRight wsX7_valueOf := goodIn_r _ [6, 7, 8, 9, 10, 11, 12, 13, 14, 15, 16, 17, 18, 19, 20, 21, 22, 23, 24, 25, 26, 27, 28, 29, 30, 31, 32, 33, 34, 35, 36, 37, 38, 39, 40, 41, 42, 43, 44, 45, 46, 47, 48, 49, 50, 51, 52, 53, 54, 55, 56, 57, 58, 59, 60, 61, 62] (by decide +kernel) (by decide +kernel)
set_option maxRecDepth 20000 in
theorem gX7_isRight_X7_valueOf : GoodIn wsX7_isRight (wsV RX7 199 RX7 yX7_valueOf wsX7_valueOf) := goodIn_app (goodIn_of _ (by decide +kernel)) ggX7_isRight_X7_valueOf
theorem dX7_isRight_0 : decode cX7_isRight 0 = .ok (.aload_n 0, 1) := by decide +kernel
theorem dX7_isRight_1 : decode cX7_isRight 1 = .ok (.getfield 68, 3) := by decide +kernel
theorem dX7_isRight_4 : decode cX7_isRight 4 = .ok (.bipush 100, 2) := by decide +kernel
theorem dX7_isRight_6 : decode cX7_isRight 6 = .ok (.iload_n 2, 1) := by decide +kernel
theorem dX7_isRight_7 : decode cX7_isRight 7 = .ok (.imul, 1) := by decide +kernel
theorem dX7_isRight_8 : decode cX7_isRight 8 = .ok (.bipush 10, 2) := by decide +kernel
theorem dX7_isRight_10 : decode cX7_isRight 10 = .ok (.iload_n 3, 1) := by decide +kernel
theorem dX7_isRight_11 : decode cX7_isRight 11 = .ok (.imul, 1) := by decide +kernel
theorem dX7_isRight_12 : decode cX7_isRight 12 = .ok (.iadd, 1) := by decide +kernel
theorem dX7_isRight_13 : decode cX7_isRight 13 = .ok (.iload 4, 2) := by decide +kernel
theorem dX7_isRight_15 : decode cX7_isRight 15 = .ok (.iadd, 1) := by decide +kernel
theorem dX7_isRight_16 : decode cX7_isRight 16 = .ok (.iaload, 1) := by decide +kernel
theorem dX7_isRight_17 : decode cX7_isRight 17 = .ok (.istore 8, 2) := by decide +kernel
theorem dX7_isRight_19 : decode cX7_isRight 19 = .ok (.iload 8, 2) := by decide +kernel
theorem dX7_isRight_21 : decode cX7_isRight 21 = .ok (.ifCond .ne 5, 3) := by decide +kernel
theorem dX7_isRight_24 : decode cX7_isRight 24 = .ok (.iconst 1, 1) := by decide +kernel
theorem dX7_isRight_25 : decode cX7_isRight 25 = .ok (.ireturn, 1) := by decide +kernel
theorem dX7_isRight_26 : decode cX7_isRight 26 = .ok (.aload_n 0, 1) := by decide +kernel
theorem dX7_isRight_27 : decode cX7_isRight 27 = .ok (.iload_n 1, 1) := by decide +kernel
theorem dX7_isRight_28 : decode cX7_isRight 28 = .ok (.iload 5, 2) := by decide +kernel
theorem dX7_isRight_30 : decode cX7_isRight 30 = .ok (.iload 6, 2) := by decide +kernel
theorem dX7_isRight_32 : decode cX7_isRight 32 = .ok (.iload 7, 2) := by decide +kernel
theorem dX7_isRight_34 : decode cX7_isRight 34 = .ok (.invokevirtual 199, 3) := by decide +kernel
theorem dX7_isRight_37 : decode cX7_isRight 37 = .ok (.istore 9, 2) := by decide +kernel
theorem dX7_isRight_39 : decode cX7_isRight 39 = .ok (.iload 8, 2) := by decide +kernel
theorem dX7_isRight_41 : decode cX7_isRight 41 = .ok (.iconst 1, 1) := by decide +kernel
theorem dX7_isRight_42 : decode cX7_isRight 42 = .ok (.if_icmp .ne 16, 3) := by decide +kernel
theorem dX7_isRight_45 : decode cX7_isRight 45 = .ok (.iload 9, 2) := by decide +kernel
theorem dX7_isRight_47 : decode cX7_isRight 47 = .ok (.ifCond .ne 7, 3) := by decide +kernel
theorem dX7_isRight_50 : decode cX7_isRight 50 = .ok (.iconst 1, 1) := by decide +kernel
theorem dX7_isRight_51 : decode cX7_isRight 51 = .ok (.goto 55, 3) := by decide +kernel
theorem dX7_isRight_54 : decode cX7_isRight 54 = .ok (.iconst 0, 1) := by decide +kernel
theorem dX7_isRight_55 : decode cX7_isRight 55 = .ok (.goto 51, 3) := by decide +kernel
theorem dX7_isRight_58 : decode cX7_isRight 58 = .ok (.iload 8, 2) := by decide +kernel
theorem dX7_isRight_60 : decode cX7_isRight 60 = .ok (.iconst 2, 1) := by decide +kernel
theorem dX7_isRight_61 : decode cX7_isRight 61 = .ok (.if_icmp .ne 16, 3) := by decide +kernel
theorem dX7_isRight_64 : decode cX7_isRight 64 = .ok (.iload 9, 2) := by decide +kernel
theorem dX7_isRight_66 : decode cX7_isRight 66 = .ok (.ifCond .eq 7, 3) := by decide +kernel
theorem dX7_isRight_69 : decode cX7_isRight 69 = .ok (.iconst 1, 1) := by decide +kernel
theorem dX7_isRight_70 : decode cX7_isRight 70 = .ok (.goto 36, 3) := by decide +kernel
theorem dX7_isRight_73 : decode cX7_isRight 73 = .ok (.iconst 0, 1) := by decide +kernel
theorem dX7_isRight_74 : decode cX7_isRight 74 = .ok (.goto 32, 3) := by decide +kernel
theorem dX7_isRight_77 : decode cX7_isRight 77 = .ok (.iload 8, 2) := by decide +kernel
theorem dX7_isRight_79 : decode cX7_isRight 79 = .ok (.iconst 3, 1) := by decide +kernel
theorem dX7_isRight_80 : decode cX7_isRight 80 = .ok (.if_icmp .ne 16, 3) := by decide +kernel
theorem dX7_isRight_83 : decode cX7_isRight 83 = .ok (.iload 9, 2) := by decide +kernel
theorem dX7_isRight_85 : decode cX7_isRight 85 = .ok (.ifCond .le 7, 3) := by decide +kernel
theorem dX7_isRight_88 : decode cX7_isRight 88 = .ok (.iconst 1, 1) := by decide +kernel
theorem dX7_isRight_89 : decode cX7_isRight 89 = .ok (.goto 17, 3) := by decide +kernel
theorem dX7_isRight_92 : decode cX7_isRight 92 = .ok (.iconst 0, 1) := by decide +kernel
theorem dX7_isRight_93 : decode cX7_isRight 93 = .ok (.goto 13, 3) := by decide +kernel
theorem dX7_isRight_96 : decode cX7_isRight 96 = .ok (.iload 9, 2) := by decide +kernel
theorem dX7_isRight_98 : decode cX7_isRight 98 = .ok (.ifCond .ge 7, 3) := by decide +kernel
theorem dX7_isRight_101 : decode cX7_isRight 101 = .ok (.iconst 1, 1) := by decide +kernel
theorem dX7_isRight_102 : decode cX7_isRight 102 = .ok (.goto 4, 3) := by decide +kernel
theorem dX7_isRight_105 : decode cX7_isRight 105 = .ok (.iconst 0, 1) := by decide +kernel
theorem dX7_isRight_106 : decode cX7_isRight 106 = .ok (.ireturn, 1) := by decide +kernel
set_option maxRecDepth 20000 in
theorem ggX7_goes_X7_isRight : GoodIn wsX7_goes wsX7_isRight := goodIn_r _ [6, 7, 8, 9, 10, 5, 11, 12, 13, 14, 15, 16, 17, 18, 19, 20, 21, 22, 23, 24, 25, 26, 27, 28, 29, 30, 31, 32, 33, 34, 35, 36, 37, 38, 39, 40, 41, 42, 43, 44, 45, 46, 47, 48, 49, 50, 51, 52, 53, 54, 55, 56, 57, 58, 59, 60, 61, 62, 63, 64, 65, 66, 67] (by decide +kernel) (by decide +kernel)
set_option maxRecDepth 20000 in
theorem gX7_goes_X7_isRight : GoodIn wsX7_goes (wsV RX7 203 RX7 yX7_isRight wsX7_isRight) := goodIn_app (goodIn_of _ (by decide +kernel)) ggX7_goes_X7_isRight
theorem dX7_goes_0 : decode cX7_goes 0 = .ok (.iconst 1, 1) := by decide +kernel
theorem dX7_goes_1 : decode cX7_goes 1 = .ok (.istore 4, 2) := by decide +kernel
theorem dX7_goes_3 : decode cX7_goes 3 = .ok (.iconst 0, 1) := by decide +kernel
theorem dX7_goes_4 : decode cX7_goes 4 = .ok (.istore 5, 2) := by decide +kernel
theorem dX7_goes_6 : decode cX7_goes 6 = .ok (.iload 5, 2) := by decide +kernel
theorem dX7_goes_8 : decode cX7_goes 8 = .ok (.iload_n 2, 1) := by decide +kernel
theorem dX7_goes_9 : decode cX7_goes 9 = .ok (.if_icmp .ge 82, 3) := by decide +kernel
theorem dX7_goes_12 : decode cX7_goes 12 = .ok (.iload 4, 2) := by decide +kernel
theorem dX7_goes_14 : decode cX7_goes 14 = .ok (.ifCond .eq 77, 3) := by decide +kernel
theorem dX7_goes_17 : decode cX7_goes 17 = .ok (.aload_n 0, 1) := by decide +kernel
theorem dX7_goes_18 : decode cX7_goes 18 = .ok (.getfield 52, 3) := by decide +kernel
theorem dX7_goes_21 : decode cX7_goes 21 = .ok (.iload 5, 2) := by decide +kernel
theorem dX7_goes_23 : decode cX7_goes 23 = .ok (.iaload, 1) := by decide +kernel
theorem dX7_goes_24 : decode cX7_goes 24 = .ok (.iload_n 3, 1) := by decide +kernel
theorem dX7_goes_25 : decode cX7_goes 25 = .ok (.if_icmp .eq 7, 3) := by decide +kernel
theorem dX7_goes_28 : decode cX7_goes 28 = .ok (.iconst 1, 1) := by decide +kernel
theorem dX7_goes_29 : decode cX7_goes 29 = .ok (.goto 4, 3) := by decide +kernel
theorem dX7_goes_32 : decode cX7_goes 32 = .ok (.iconst 0, 1) := by decide +kernel
theorem dX7_goes_33 : decode cX7_goes 33 = .ok (.istore 4, 2) := by decide +kernel
theorem dX7_goes_35 : decode cX7_goes 35 = .ok (.iload 5, 2) := by decide +kernel
theorem dX7_goes_37 : decode cX7_goes 37 = .ok (.iconst 1, 1) := by decide +kernel
theorem dX7_goes_38 : decode cX7_goes 38 = .ok (.iadd, 1) := by decide +kernel
theorem dX7_goes_39 : decode cX7_goes 39 = .ok (.istore 6, 2) := by decide +kernel
theorem dX7_goes_41 : decode cX7_goes 41 = .ok (.iload 6, 2) := by decide +kernel
theorem dX7_goes_43 : decode cX7_goes 43 = .ok (.iload_n 2, 1) := by decide +kernel
theorem dX7_goes_44 : decode cX7_goes 44 = .ok (.if_icmp .ge 41, 3) := by decide +kernel
theorem dX7_goes_47 : decode cX7_goes 47 = .ok (.iload 4, 2) := by decide +kernel
theorem dX7_goes_49 : decode cX7_goes 49 = .ok (.ifCond .eq 36, 3) := by decide +kernel
theorem dX7_goes_52 : decode cX7_goes 52 = .ok (.aload_n 0, 1) := by decide +kernel
theorem dX7_goes_53 : decode cX7_goes 53 = .ok (.iload_n 1, 1) := by decide +kernel
theorem dX7_goes_54 : decode cX7_goes 54 = .ok (.iload 5, 2) := by decide +kernel
theorem dX7_goes_56 : decode cX7_goes 56 = .ok (.iload 6, 2) := by decide +kernel
theorem dX7_goes_58 : decode cX7_goes 58 = .ok (.iload_n 2, 1) := by decide +kernel
theorem dX7_goes_59 : decode cX7_goes 59 = .ok (.aload_n 0, 1) := by decide +kernel
theorem dX7_goes_60 : decode cX7_goes 60 = .ok (.getfield 52, 3) := by decide +kernel
theorem dX7_goes_63 : decode cX7_goes 63 = .ok (.iload 5, 2) := by decide +kernel
theorem dX7_goes_65 : decode cX7_goes 65 = .ok (.iaload, 1) := by decide +kernel
theorem dX7_goes_66 : decode cX7_goes 66 = .ok (.aload_n 0, 1) := by decide +kernel
theorem dX7_goes_67 : decode cX7_goes 67 = .ok (.getfield 52, 3) := by decide +kernel
theorem dX7_goes_70 : decode cX7_goes 70 = .ok (.iload 6, 2) := by decide +kernel
theorem dX7_goes_72 : decode cX7_goes 72 = .ok (.iaload, 1) := by decide +kernel
theorem dX7_goes_73 : decode cX7_goes 73 = .ok (.iload_n 3, 1) := by decide +kernel
theorem dX7_goes_74 : decode cX7_goes 74 = .ok (.invokevirtual 203, 3) := by decide +kernel
theorem dX7_goes_77 : decode cX7_goes 77 = .ok (.istore 4, 2) := by decide +kernel
theorem dX7_goes_79 : decode cX7_goes 79 = .ok (.iinc 6 1, 3) := by decide +kernel
theorem dX7_goes_82 : decode cX7_goes 82 = .ok (.goto (-41), 3) := by decide +kernel
theorem dX7_goes_85 : decode cX7_goes 85 = .ok (.iinc 5 1, 3) := by decide +kernel
theorem dX7_goes_88 : decode cX7_goes 88 = .ok (.goto (-82), 3) := by decide +kernel
theorem dX7_goes_91 : decode cX7_goes 91 = .ok (.iload 4, 2) := by decide +kernel
theorem dX7_goes_93 : decode cX7_goes 93 = .ok (.ireturn, 1) := by decide +kernel
set_option maxRecDepth 20000 in
theorem ggX7_realise_X7_isPrime : GoodIn wsX7_realise wsX7_isPrime := goodIn_r _ [11] (by decide +kernel) (by decide +kernel)
set_option maxRecDepth 20000 in
theorem gX7_realise_X7_isPrime : GoodIn wsX7_realise (va_wsS RX7 207 yX7_isPrime wsX7_isPrime) := goodIn_app (goodIn_of _ (by decide +kernel)) ggX7_realise_X7_isPrime
set_option maxRecDepth 20000 in
theorem ggX7_realise_X7_isIn : GoodIn wsX7_realise wsX7_isIn := goodIn_r _ [14] (by decide +kernel) (by decide +kernel)
set_option maxRecDepth 20000 in
theorem gX7_realise_X7_isIn : GoodIn wsX7_realise (va_wsS RX7 125 yX7_isIn wsX7_isIn) := goodIn_app (goodIn_of _ (by decide +kernel)) ggX7_realise_X7_isIn
set_option maxRecDepth 20000 in
theorem ggX7_realise_X7_placesOf : GoodIn wsX7_realise wsX7_placesOf := goodIn_r _ [17] (by decide +kernel) (by decide +kernel)
set_option maxRecDepth 20000 in
theorem gX7_realise_X7_placesOf : GoodIn wsX7_realise (va_wsS RX7 189 yX7_placesOf wsX7_placesOf) := goodIn_app (goodIn_of _ (by decide +kernel)) ggX7_realise_X7_placesOf
set_option maxRecDepth 20000 in
theorem ggX7_realise_X7_layWants : GoodIn wsX7_realise wsX7_layWants := goodIn_r _ [21, 7, 22, 23, 24, 25, 26, 10, 27, 28, 29, 30, 31, 15, 16, 17, 32, 33, 34, 35, 36, 37, 38, 39, 40, 41, 42, 43, 44, 45, 46, 47, 48, 49, 50, 51, 52, 53, 2, 54, 73, 74, 75, 76, 77, 78, 79, 80, 81, 82, 83, 84, 85, 86, 87, 88, 89, 90, 91, 92, 93, 94, 95, 96, 97, 98, 99, 100, 101, 102, 103, 104, 105, 106, 107, 108, 109, 110, 111, 112, 113, 114, 115, 116, 117, 118, 119, 120, 121, 122, 123, 124, 125] (by decide +kernel) (by decide +kernel)
set_option maxRecDepth 20000 in
theorem gX7_realise_X7_layWants : GoodIn wsX7_realise (wsV RX7 210 RX7 yX7_layWants wsX7_layWants) := goodIn_app (goodIn_of _ (by decide +kernel)) ggX7_realise_X7_layWants
set_option maxRecDepth 20000 in
theorem ggX7_realise_X7_goes : GoodIn wsX7_realise wsX7_goes := goodIn_r _ [58, 6, 59, 60, 61, 10, 62, 23, 63, 64, 65, 66, 29, 30, 31, 73, 74, 75, 76, 77, 78, 79, 80, 81, 82, 83, 84, 85, 86, 87, 88, 89, 90, 91, 92, 93, 94, 95, 96, 97, 98, 99, 100, 101, 102, 103, 104, 105, 106, 107, 108, 109, 110, 111, 112, 113, 114, 115, 116, 117, 118, 119, 120, 121, 122, 123, 124, 125] (by decide +kernel) (by decide +kernel)
set_option maxRecDepth 20000 in
theorem gX7_realise_X7_goes : GoodIn wsX7_realise (wsV RX7 213 RX7 yX7_goes wsX7_goes) := goodIn_app (goodIn_of _ (by decide +kernel)) ggX7_realise_X7_goes
set_option maxRecDepth 20000 in
theorem ggX7_realise_X7_found : GoodIn wsX7_realise wsX7_found := goodIn_r _ [70, 71, 3, 7, 72, 6, 73, 74, 75, 76, 77, 78, 79, 80, 81, 82, 83, 84, 85, 86, 87, 88, 89, 90, 91, 92, 93, 94, 95, 96, 97, 98, 99, 100, 101, 102, 103, 104, 105, 106, 107, 108, 109, 110, 111, 112, 113, 114, 115, 116, 117, 118, 119, 120, 121, 122, 123, 124, 125] (by decide +kernel) (by decide +kernel)
set_option maxRecDepth 20000 in
theorem gX7_realise_X7_found : GoodIn wsX7_realise (wsV RX7 216 RX7 yX7_found wsX7_found) := goodIn_app (goodIn_of _ (by decide +kernel)) ggX7_realise_X7_found
theorem dX7_realise_0 : decode cX7_realise 0 = .ok (.aload_n 0, 1) := by decide +kernel
theorem dX7_realise_1 : decode cX7_realise 1 = .ok (.iconst 0, 1) := by decide +kernel
theorem dX7_realise_2 : decode cX7_realise 2 = .ok (.putfield 122, 3) := by decide +kernel
theorem dX7_realise_5 : decode cX7_realise 5 = .ok (.iload_n 1, 1) := by decide +kernel
theorem dX7_realise_6 : decode cX7_realise 6 = .ok (.ifCond .eq 10, 3) := by decide +kernel
theorem dX7_realise_9 : decode cX7_realise 9 = .ok (.iload_n 1, 1) := by decide +kernel
theorem dX7_realise_10 : decode cX7_realise 10 = .ok (.invokestatic 207, 3) := by decide +kernel
theorem dX7_realise_13 : decode cX7_realise 13 = .ok (.ifCond .eq 14, 3) := by decide +kernel
theorem dX7_realise_16 : decode cX7_realise 16 = .ok (.iload_n 2, 1) := by decide +kernel
theorem dX7_realise_17 : decode cX7_realise 17 = .ok (.iconst 1, 1) := by decide +kernel
theorem dX7_realise_18 : decode cX7_realise 18 = .ok (.sipush 20000, 3) := by decide +kernel
theorem dX7_realise_21 : decode cX7_realise 21 = .ok (.invokestatic 125, 3) := by decide +kernel
theorem dX7_realise_24 : decode cX7_realise 24 = .ok (.ifCond .ne 6, 3) := by decide +kernel
theorem dX7_realise_27 : decode cX7_realise 27 = .ok (.bipush (-9), 2) := by decide +kernel
theorem dX7_realise_29 : decode cX7_realise 29 = .ok (.ireturn, 1) := by decide +kernel
theorem dX7_realise_30 : decode cX7_realise 30 = .ok (.aload_n 0, 1) := by decide +kernel
theorem dX7_realise_31 : decode cX7_realise 31 = .ok (.getfield 146, 3) := by decide +kernel
theorem dX7_realise_34 : decode cX7_realise 34 = .ok (.ifCond .ne 6, 3) := by decide +kernel
theorem dX7_realise_37 : decode cX7_realise 37 = .ok (.bipush (-2), 2) := by decide +kernel
theorem dX7_realise_39 : decode cX7_realise 39 = .ok (.ireturn, 1) := by decide +kernel
theorem dX7_realise_40 : decode cX7_realise 40 = .ok (.aload_n 0, 1) := by decide +kernel
theorem dX7_realise_41 : decode cX7_realise 41 = .ok (.iconst 0, 1) := by decide +kernel
theorem dX7_realise_42 : decode cX7_realise 42 = .ok (.putfield 158, 3) := by decide +kernel
theorem dX7_realise_45 : decode cX7_realise 45 = .ok (.aload_n 0, 1) := by decide +kernel
theorem dX7_realise_46 : decode cX7_realise 46 = .ok (.iconst 0, 1) := by decide +kernel
theorem dX7_realise_47 : decode cX7_realise 47 = .ok (.putfield 165, 3) := by decide +kernel
theorem dX7_realise_50 : decode cX7_realise 50 = .ok (.iload_n 1, 1) := by decide +kernel
theorem dX7_realise_51 : decode cX7_realise 51 = .ok (.invokestatic 189, 3) := by decide +kernel
theorem dX7_realise_54 : decode cX7_realise 54 = .ok (.istore_n 3, 1) := by decide +kernel
theorem dX7_realise_55 : decode cX7_realise 55 = .ok (.aload_n 0, 1) := by decide +kernel
theorem dX7_realise_56 : decode cX7_realise 56 = .ok (.iload_n 1, 1) := by decide +kernel
theorem dX7_realise_57 : decode cX7_realise 57 = .ok (.invokevirtual 210, 3) := by decide +kernel
theorem dX7_realise_60 : decode cX7_realise 60 = .ok (.iconst 0, 1) := by decide +kernel
theorem dX7_realise_61 : decode cX7_realise 61 = .ok (.istore 4, 2) := by decide +kernel
theorem dX7_realise_63 : decode cX7_realise 63 = .ok (.aload_n 0, 1) := by decide +kernel
theorem dX7_realise_64 : decode cX7_realise 64 = .ok (.getfield 49, 3) := by decide +kernel
theorem dX7_realise_67 : decode cX7_realise 67 = .ok (.iconst 0, 1) := by decide +kernel
theorem dX7_realise_68 : decode cX7_realise 68 = .ok (.iconst 0, 1) := by decide +kernel
theorem dX7_realise_69 : decode cX7_realise 69 = .ok (.iastore, 1) := by decide +kernel
theorem dX7_realise_70 : decode cX7_realise 70 = .ok (.iload 4, 2) := by decide +kernel
theorem dX7_realise_72 : decode cX7_realise 72 = .ok (.ifCond .lt 110, 3) := by decide +kernel
theorem dX7_realise_75 : decode cX7_realise 75 = .ok (.aload_n 0, 1) := by decide +kernel
theorem dX7_realise_76 : decode cX7_realise 76 = .ok (.getfield 49, 3) := by decide +kernel
theorem dX7_realise_79 : decode cX7_realise 79 = .ok (.iload 4, 2) := by decide +kernel
theorem dX7_realise_81 : decode cX7_realise 81 = .ok (.iaload, 1) := by decide +kernel
theorem dX7_realise_82 : decode cX7_realise 82 = .ok (.iload_n 3, 1) := by decide +kernel
theorem dX7_realise_83 : decode cX7_realise 83 = .ok (.if_icmp .ne 9, 3) := by decide +kernel
theorem dX7_realise_86 : decode cX7_realise 86 = .ok (.iinc 4 (-1), 3) := by decide +kernel
theorem dX7_realise_89 : decode cX7_realise 89 = .ok (.goto (-19), 3) := by decide +kernel
theorem dX7_realise_92 : decode cX7_realise 92 = .ok (.aload_n 0, 1) := by decide +kernel
theorem dX7_realise_93 : decode cX7_realise 93 = .ok (.getfield 165, 3) := by decide +kernel
theorem dX7_realise_96 : decode cX7_realise 96 = .ok (.iload_n 2, 1) := by decide +kernel
theorem dX7_realise_97 : decode cX7_realise 97 = .ok (.if_icmp .ne 5, 3) := by decide +kernel
theorem dX7_realise_100 : decode cX7_realise 100 = .ok (.iconst 2, 1) := by decide +kernel
theorem dX7_realise_101 : decode cX7_realise 101 = .ok (.ireturn, 1) := by decide +kernel
theorem dX7_realise_102 : decode cX7_realise 102 = .ok (.aload_n 0, 1) := by decide +kernel
theorem dX7_realise_103 : decode cX7_realise 103 = .ok (.dup, 1) := by decide +kernel
theorem dX7_realise_104 : decode cX7_realise 104 = .ok (.getfield 165, 3) := by decide +kernel
theorem dX7_realise_107 : decode cX7_realise 107 = .ok (.iconst 1, 1) := by decide +kernel
theorem dX7_realise_108 : decode cX7_realise 108 = .ok (.iadd, 1) := by decide +kernel
theorem dX7_realise_109 : decode cX7_realise 109 = .ok (.putfield 165, 3) := by decide +kernel
theorem dX7_realise_112 : decode cX7_realise 112 = .ok (.aload_n 0, 1) := by decide +kernel
theorem dX7_realise_113 : decode cX7_realise 113 = .ok (.getfield 49, 3) := by decide +kernel
theorem dX7_realise_116 : decode cX7_realise 116 = .ok (.iload 4, 2) := by decide +kernel
theorem dX7_realise_118 : decode cX7_realise 118 = .ok (.iaload, 1) := by decide +kernel
theorem dX7_realise_119 : decode cX7_realise 119 = .ok (.istore 5, 2) := by decide +kernel
theorem dX7_realise_121 : decode cX7_realise 121 = .ok (.aload_n 0, 1) := by decide +kernel
theorem dX7_realise_122 : decode cX7_realise 122 = .ok (.getfield 49, 3) := by decide +kernel
theorem dX7_realise_125 : decode cX7_realise 125 = .ok (.iload 4, 2) := by decide +kernel
theorem dX7_realise_127 : decode cX7_realise 127 = .ok (.dup2, 1) := by decide +kernel
theorem dX7_realise_128 : decode cX7_realise 128 = .ok (.iaload, 1) := by decide +kernel
theorem dX7_realise_129 : decode cX7_realise 129 = .ok (.iconst 1, 1) := by decide +kernel
theorem dX7_realise_130 : decode cX7_realise 130 = .ok (.iadd, 1) := by decide +kernel
theorem dX7_realise_131 : decode cX7_realise 131 = .ok (.iastore, 1) := by decide +kernel
theorem dX7_realise_132 : decode cX7_realise 132 = .ok (.aload_n 0, 1) := by decide +kernel
theorem dX7_realise_133 : decode cX7_realise 133 = .ok (.iload_n 1, 1) := by decide +kernel
theorem dX7_realise_134 : decode cX7_realise 134 = .ok (.iload 4, 2) := by decide +kernel
theorem dX7_realise_136 : decode cX7_realise 136 = .ok (.iload 5, 2) := by decide +kernel
theorem dX7_realise_138 : decode cX7_realise 138 = .ok (.invokevirtual 213, 3) := by decide +kernel
theorem dX7_realise_141 : decode cX7_realise 141 = .ok (.ifCond .eq 38, 3) := by decide +kernel
theorem dX7_realise_144 : decode cX7_realise 144 = .ok (.aload_n 0, 1) := by decide +kernel
theorem dX7_realise_145 : decode cX7_realise 145 = .ok (.getfield 52, 3) := by decide +kernel
theorem dX7_realise_148 : decode cX7_realise 148 = .ok (.iload 4, 2) := by decide +kernel
theorem dX7_realise_150 : decode cX7_realise 150 = .ok (.iload 5, 2) := by decide +kernel
theorem dX7_realise_152 : decode cX7_realise 152 = .ok (.iastore, 1) := by decide +kernel
theorem dX7_realise_153 : decode cX7_realise 153 = .ok (.iinc 4 1, 3) := by decide +kernel
theorem dX7_realise_156 : decode cX7_realise 156 = .ok (.iload 4, 2) := by decide +kernel
theorem dX7_realise_158 : decode cX7_realise 158 = .ok (.aload_n 0, 1) := by decide +kernel
theorem dX7_realise_159 : decode cX7_realise 159 = .ok (.getfield 143, 3) := by decide +kernel
theorem dX7_realise_162 : decode cX7_realise 162 = .ok (.if_icmp .ne 9, 3) := by decide +kernel
theorem dX7_realise_165 : decode cX7_realise 165 = .ok (.aload_n 0, 1) := by decide +kernel
theorem dX7_realise_166 : decode cX7_realise 166 = .ok (.iload_n 1, 1) := by decide +kernel
theorem dX7_realise_167 : decode cX7_realise 167 = .ok (.invokevirtual 216, 3) := by decide +kernel
theorem dX7_realise_170 : decode cX7_realise 170 = .ok (.ireturn, 1) := by decide +kernel
theorem dX7_realise_171 : decode cX7_realise 171 = .ok (.aload_n 0, 1) := by decide +kernel
theorem dX7_realise_172 : decode cX7_realise 172 = .ok (.getfield 49, 3) := by decide +kernel
theorem dX7_realise_175 : decode cX7_realise 175 = .ok (.iload 4, 2) := by decide +kernel
theorem dX7_realise_177 : decode cX7_realise 177 = .ok (.iconst 0, 1) := by decide +kernel
theorem dX7_realise_178 : decode cX7_realise 178 = .ok (.iastore, 1) := by decide +kernel
theorem dX7_realise_179 : decode cX7_realise 179 = .ok (.goto (-109), 3) := by decide +kernel
theorem dX7_realise_182 : decode cX7_realise 182 = .ok (.iconst 0, 1) := by decide +kernel
theorem dX7_realise_183 : decode cX7_realise 183 = .ok (.ireturn, 1) := by decide +kernel
theorem dX7_found_0 : decode cX7_found 0 = .ok (.aload_n 0, 1) := by decide +kernel
theorem dX7_found_1 : decode cX7_found 1 = .ok (.iload_n 1, 1) := by decide +kernel
theorem dX7_found_2 : decode cX7_found 2 = .ok (.putfield 219, 3) := by decide +kernel
theorem dX7_found_5 : decode cX7_found 5 = .ok (.aload_n 0, 1) := by decide +kernel
theorem dX7_found_6 : decode cX7_found 6 = .ok (.iconst 1, 1) := by decide +kernel
theorem dX7_found_7 : decode cX7_found 7 = .ok (.putfield 158, 3) := by decide +kernel
theorem dX7_found_10 : decode cX7_found 10 = .ok (.iconst 0, 1) := by decide +kernel
theorem dX7_found_11 : decode cX7_found 11 = .ok (.istore_n 2, 1) := by decide +kernel
theorem dX7_found_12 : decode cX7_found 12 = .ok (.iload_n 2, 1) := by decide +kernel
theorem dX7_found_13 : decode cX7_found 13 = .ok (.aload_n 0, 1) := by decide +kernel
theorem dX7_found_14 : decode cX7_found 14 = .ok (.getfield 143, 3) := by decide +kernel
theorem dX7_found_17 : decode cX7_found 17 = .ok (.if_icmp .ge 21, 3) := by decide +kernel
theorem dX7_found_20 : decode cX7_found 20 = .ok (.aload_n 0, 1) := by decide +kernel
theorem dX7_found_21 : decode cX7_found 21 = .ok (.getfield 46, 3) := by decide +kernel
theorem dX7_found_24 : decode cX7_found 24 = .ok (.iload_n 2, 1) := by decide +kernel
theorem dX7_found_25 : decode cX7_found 25 = .ok (.aload_n 0, 1) := by decide +kernel
theorem dX7_found_26 : decode cX7_found 26 = .ok (.getfield 52, 3) := by decide +kernel
theorem dX7_found_29 : decode cX7_found 29 = .ok (.iload_n 2, 1) := by decide +kernel
theorem dX7_found_30 : decode cX7_found 30 = .ok (.iaload, 1) := by decide +kernel
theorem dX7_found_31 : decode cX7_found 31 = .ok (.iastore, 1) := by decide +kernel
theorem dX7_found_32 : decode cX7_found 32 = .ok (.iinc 2 1, 3) := by decide +kernel
theorem dX7_found_35 : decode cX7_found 35 = .ok (.goto (-23), 3) := by decide +kernel
theorem dX7_found_38 : decode cX7_found 38 = .ok (.iconst 1, 1) := by decide +kernel
theorem dX7_found_39 : decode cX7_found 39 = .ok (.ireturn, 1) := by decide +kernel
set_option maxRecDepth 20000 in
theorem ggX7_coordinate_X7_isIn : GoodIn wsX7_coordinate wsX7_isIn := goodIn_r _ [9] (by decide +kernel) (by decide +kernel)
set_option maxRecDepth 20000 in
theorem gX7_coordinate_X7_isIn : GoodIn wsX7_coordinate (va_wsS RX7 125 yX7_isIn wsX7_isIn) := goodIn_app (goodIn_of _ (by decide +kernel)) ggX7_coordinate_X7_isIn
set_option maxRecDepth 20000 in
theorem ggX7_coordinate_X7_part : GoodIn wsX7_coordinate wsX7_part := goodIn_r _ [12] (by decide +kernel) (by decide +kernel)
set_option maxRecDepth 20000 in
theorem gX7_coordinate_X7_part : GoodIn wsX7_coordinate (va_wsS RX7 192 yX7_part wsX7_part) := goodIn_app (goodIn_of _ (by decide +kernel)) ggX7_coordinate_X7_part
theorem dX7_coordinate_0 : decode cX7_coordinate 0 = .ok (.aload_n 0, 1) := by decide +kernel
theorem dX7_coordinate_1 : decode cX7_coordinate 1 = .ok (.iconst 0, 1) := by decide +kernel
theorem dX7_coordinate_2 : decode cX7_coordinate 2 = .ok (.putfield 122, 3) := by decide +kernel
theorem dX7_coordinate_5 : decode cX7_coordinate 5 = .ok (.iload_n 1, 1) := by decide +kernel
theorem dX7_coordinate_6 : decode cX7_coordinate 6 = .ok (.iconst 0, 1) := by decide +kernel
theorem dX7_coordinate_7 : decode cX7_coordinate 7 = .ok (.aload_n 0, 1) := by decide +kernel
theorem dX7_coordinate_8 : decode cX7_coordinate 8 = .ok (.getfield 143, 3) := by decide +kernel
theorem dX7_coordinate_11 : decode cX7_coordinate 11 = .ok (.iconst 1, 1) := by decide +kernel
theorem dX7_coordinate_12 : decode cX7_coordinate 12 = .ok (.isub, 1) := by decide +kernel
theorem dX7_coordinate_13 : decode cX7_coordinate 13 = .ok (.invokestatic 125, 3) := by decide +kernel
theorem dX7_coordinate_16 : decode cX7_coordinate 16 = .ok (.ifCond .eq 12, 3) := by decide +kernel
theorem dX7_coordinate_19 : decode cX7_coordinate 19 = .ok (.iload_n 2, 1) := by decide +kernel
theorem dX7_coordinate_20 : decode cX7_coordinate 20 = .ok (.iconst 0, 1) := by decide +kernel
theorem dX7_coordinate_21 : decode cX7_coordinate 21 = .ok (.iconst 3, 1) := by decide +kernel
theorem dX7_coordinate_22 : decode cX7_coordinate 22 = .ok (.invokestatic 125, 3) := by decide +kernel
theorem dX7_coordinate_25 : decode cX7_coordinate 25 = .ok (.ifCond .ne 6, 3) := by decide +kernel
theorem dX7_coordinate_28 : decode cX7_coordinate 28 = .ok (.bipush (-9), 2) := by decide +kernel
theorem dX7_coordinate_30 : decode cX7_coordinate 30 = .ok (.ireturn, 1) := by decide +kernel
theorem dX7_coordinate_31 : decode cX7_coordinate 31 = .ok (.aload_n 0, 1) := by decide +kernel
theorem dX7_coordinate_32 : decode cX7_coordinate 32 = .ok (.getfield 158, 3) := by decide +kernel
theorem dX7_coordinate_35 : decode cX7_coordinate 35 = .ok (.ifCond .ne 6, 3) := by decide +kernel
theorem dX7_coordinate_38 : decode cX7_coordinate 38 = .ok (.bipush (-2), 2) := by decide +kernel
theorem dX7_coordinate_40 : decode cX7_coordinate 40 = .ok (.ireturn, 1) := by decide +kernel
theorem dX7_coordinate_41 : decode cX7_coordinate 41 = .ok (.iload_n 2, 1) := by decide +kernel
theorem dX7_coordinate_42 : decode cX7_coordinate 42 = .ok (.iconst 3, 1) := by decide +kernel
theorem dX7_coordinate_43 : decode cX7_coordinate 43 = .ok (.if_icmp .ne 12, 3) := by decide +kernel
theorem dX7_coordinate_46 : decode cX7_coordinate 46 = .ok (.aload_n 0, 1) := by decide +kernel
theorem dX7_coordinate_47 : decode cX7_coordinate 47 = .ok (.getfield 46, 3) := by decide +kernel
theorem dX7_coordinate_50 : decode cX7_coordinate 50 = .ok (.iload_n 1, 1) := by decide +kernel
theorem dX7_coordinate_51 : decode cX7_coordinate 51 = .ok (.iaload, 1) := by decide +kernel
theorem dX7_coordinate_52 : decode cX7_coordinate 52 = .ok (.goto 17, 3) := by decide +kernel
theorem dX7_coordinate_55 : decode cX7_coordinate 55 = .ok (.aload_n 0, 1) := by decide +kernel
theorem dX7_coordinate_56 : decode cX7_coordinate 56 = .ok (.getfield 219, 3) := by decide +kernel
theorem dX7_coordinate_59 : decode cX7_coordinate 59 = .ok (.aload_n 0, 1) := by decide +kernel
theorem dX7_coordinate_60 : decode cX7_coordinate 60 = .ok (.getfield 46, 3) := by decide +kernel
theorem dX7_coordinate_63 : decode cX7_coordinate 63 = .ok (.iload_n 1, 1) := by decide +kernel
theorem dX7_coordinate_64 : decode cX7_coordinate 64 = .ok (.iaload, 1) := by decide +kernel
theorem dX7_coordinate_65 : decode cX7_coordinate 65 = .ok (.iload_n 2, 1) := by decide +kernel
theorem dX7_coordinate_66 : decode cX7_coordinate 66 = .ok (.invokestatic 192, 3) := by decide +kernel
theorem dX7_coordinate_69 : decode cX7_coordinate 69 = .ok (.ireturn, 1) := by decide +kernel
set_option maxRecDepth 20000 in
theorem ggX7_check_X7_layWants : GoodIn wsX7_check wsX7_layWants := goodIn_r _ [10, 4, 11, 12, 13, 14, 15, 9, 16, 17, 18, 19, 20, 21, 22, 23, 24, 25, 26, 27, 28, 29, 30, 31, 32, 33, 34, 35, 36, 37, 38, 39, 40, 41, 42, 43, 44, 45, 46, 47, 56, 57, 58, 59, 60, 61, 62, 63, 64, 65, 66, 67, 68, 69, 70, 71, 72, 73, 74, 75, 76, 77, 78, 79, 80, 81, 82, 83, 84, 85, 86, 87, 88, 89, 90, 91, 92, 93, 94, 95, 96, 97, 98, 99, 100, 101, 102, 103, 104, 105, 106, 107, 108] (by decide +kernel) (by decide +kernel)
set_option maxRecDepth 20000 in
theorem gX7_check_X7_layWants : GoodIn wsX7_check (wsV RX7 210 RX7 yX7_layWants wsX7_layWants) := goodIn_app (goodIn_of _ (by decide +kernel)) ggX7_check_X7_layWants
set_option maxRecDepth 20000 in
theorem ggX7_check_X7_isRight : GoodIn wsX7_check wsX7_isRight := goodIn_r _ [51, 12, 52, 53, 54, 9, 55, 18, 19, 20, 56, 57, 58, 59, 60, 61, 62, 63, 64, 65, 66, 67, 68, 69, 70, 71, 72, 73, 74, 75, 76, 77, 78, 79, 80, 81, 82, 83, 84, 85, 86, 87, 88, 89, 90, 91, 92, 93, 94, 95, 96, 97, 98, 99, 100, 101, 102, 103, 104, 105, 106, 107, 108] (by decide +kernel) (by decide +kernel)
set_option maxRecDepth 20000 in
theorem gX7_check_X7_isRight : GoodIn wsX7_check (wsV RX7 203 RX7 yX7_isRight wsX7_isRight) := goodIn_app (goodIn_of _ (by decide +kernel)) ggX7_check_X7_isRight
theorem dX7_check_0 : decode cX7_check 0 = .ok (.aload_n 0, 1) := by decide +kernel
theorem dX7_check_1 : decode cX7_check 1 = .ok (.iconst 0, 1) := by decide +kernel
theorem dX7_check_2 : decode cX7_check 2 = .ok (.putfield 122, 3) := by decide +kernel
theorem dX7_check_5 : decode cX7_check 5 = .ok (.aload_n 0, 1) := by decide +kernel
theorem dX7_check_6 : decode cX7_check 6 = .ok (.getfield 158, 3) := by decide +kernel
theorem dX7_check_9 : decode cX7_check 9 = .ok (.ifCond .ne 6, 3) := by decide +kernel
theorem dX7_check_12 : decode cX7_check 12 = .ok (.bipush (-2), 2) := by decide +kernel
theorem dX7_check_14 : decode cX7_check 14 = .ok (.ireturn, 1) := by decide +kernel
theorem dX7_check_15 : decode cX7_check 15 = .ok (.aload_n 0, 1) := by decide +kernel
theorem dX7_check_16 : decode cX7_check 16 = .ok (.aload_n 0, 1) := by decide +kernel
theorem dX7_check_17 : decode cX7_check 17 = .ok (.getfield 219, 3) := by decide +kernel
theorem dX7_check_20 : decode cX7_check 20 = .ok (.invokevirtual 210, 3) := by decide +kernel
theorem dX7_check_23 : decode cX7_check 23 = .ok (.iconst 1, 1) := by decide +kernel
theorem dX7_check_24 : decode cX7_check 24 = .ok (.istore_n 1, 1) := by decide +kernel
theorem dX7_check_25 : decode cX7_check 25 = .ok (.iconst 0, 1) := by decide +kernel
theorem dX7_check_26 : decode cX7_check 26 = .ok (.istore_n 2, 1) := by decide +kernel
theorem dX7_check_27 : decode cX7_check 27 = .ok (.iload_n 2, 1) := by decide +kernel
theorem dX7_check_28 : decode cX7_check 28 = .ok (.aload_n 0, 1) := by decide +kernel
theorem dX7_check_29 : decode cX7_check 29 = .ok (.getfield 143, 3) := by decide +kernel
theorem dX7_check_32 : decode cX7_check 32 = .ok (.if_icmp .ge 106, 3) := by decide +kernel
theorem dX7_check_35 : decode cX7_check 35 = .ok (.iload_n 2, 1) := by decide +kernel
theorem dX7_check_36 : decode cX7_check 36 = .ok (.iconst 1, 1) := by decide +kernel
theorem dX7_check_37 : decode cX7_check 37 = .ok (.iadd, 1) := by decide +kernel
theorem dX7_check_38 : decode cX7_check 38 = .ok (.istore_n 3, 1) := by decide +kernel
theorem dX7_check_39 : decode cX7_check 39 = .ok (.iload_n 3, 1) := by decide +kernel
theorem dX7_check_40 : decode cX7_check 40 = .ok (.aload_n 0, 1) := by decide +kernel
theorem dX7_check_41 : decode cX7_check 41 = .ok (.getfield 143, 3) := by decide +kernel
theorem dX7_check_44 : decode cX7_check 44 = .ok (.if_icmp .ge 88, 3) := by decide +kernel
theorem dX7_check_47 : decode cX7_check 47 = .ok (.iload_n 1, 1) := by decide +kernel
theorem dX7_check_48 : decode cX7_check 48 = .ok (.aload_n 0, 1) := by decide +kernel
theorem dX7_check_49 : decode cX7_check 49 = .ok (.getfield 46, 3) := by decide +kernel
theorem dX7_check_52 : decode cX7_check 52 = .ok (.iload_n 2, 1) := by decide +kernel
theorem dX7_check_53 : decode cX7_check 53 = .ok (.iaload, 1) := by decide +kernel
theorem dX7_check_54 : decode cX7_check 54 = .ok (.aload_n 0, 1) := by decide +kernel
theorem dX7_check_55 : decode cX7_check 55 = .ok (.getfield 46, 3) := by decide +kernel
theorem dX7_check_58 : decode cX7_check 58 = .ok (.iload_n 3, 1) := by decide +kernel
theorem dX7_check_59 : decode cX7_check 59 = .ok (.iaload, 1) := by decide +kernel
theorem dX7_check_60 : decode cX7_check 60 = .ok (.if_icmp .eq 7, 3) := by decide +kernel
theorem dX7_check_63 : decode cX7_check 63 = .ok (.iconst 1, 1) := by decide +kernel
theorem dX7_check_64 : decode cX7_check 64 = .ok (.goto 4, 3) := by decide +kernel
theorem dX7_check_67 : decode cX7_check 67 = .ok (.iconst 0, 1) := by decide +kernel
theorem dX7_check_68 : decode cX7_check 68 = .ok (.iand, 1) := by decide +kernel
theorem dX7_check_69 : decode cX7_check 69 = .ok (.istore_n 1, 1) := by decide +kernel
theorem dX7_check_70 : decode cX7_check 70 = .ok (.iload_n 3, 1) := by decide +kernel
theorem dX7_check_71 : decode cX7_check 71 = .ok (.iconst 1, 1) := by decide +kernel
theorem dX7_check_72 : decode cX7_check 72 = .ok (.iadd, 1) := by decide +kernel
theorem dX7_check_73 : decode cX7_check 73 = .ok (.istore 4, 2) := by decide +kernel
theorem dX7_check_75 : decode cX7_check 75 = .ok (.iload 4, 2) := by decide +kernel
theorem dX7_check_77 : decode cX7_check 77 = .ok (.aload_n 0, 1) := by decide +kernel
theorem dX7_check_78 : decode cX7_check 78 = .ok (.getfield 143, 3) := by decide +kernel
theorem dX7_check_81 : decode cX7_check 81 = .ok (.if_icmp .ge 45, 3) := by decide +kernel
theorem dX7_check_84 : decode cX7_check 84 = .ok (.iload_n 1, 1) := by decide +kernel
theorem dX7_check_85 : decode cX7_check 85 = .ok (.ifCond .eq 41, 3) := by decide +kernel
theorem dX7_check_88 : decode cX7_check 88 = .ok (.aload_n 0, 1) := by decide +kernel
theorem dX7_check_89 : decode cX7_check 89 = .ok (.aload_n 0, 1) := by decide +kernel
theorem dX7_check_90 : decode cX7_check 90 = .ok (.getfield 219, 3) := by decide +kernel
theorem dX7_check_93 : decode cX7_check 93 = .ok (.iload_n 2, 1) := by decide +kernel
theorem dX7_check_94 : decode cX7_check 94 = .ok (.iload_n 3, 1) := by decide +kernel
theorem dX7_check_95 : decode cX7_check 95 = .ok (.iload 4, 2) := by decide +kernel
theorem dX7_check_97 : decode cX7_check 97 = .ok (.aload_n 0, 1) := by decide +kernel
theorem dX7_check_98 : decode cX7_check 98 = .ok (.getfield 46, 3) := by decide +kernel
theorem dX7_check_101 : decode cX7_check 101 = .ok (.iload_n 2, 1) := by decide +kernel
theorem dX7_check_102 : decode cX7_check 102 = .ok (.iaload, 1) := by decide +kernel
theorem dX7_check_103 : decode cX7_check 103 = .ok (.aload_n 0, 1) := by decide +kernel
theorem dX7_check_104 : decode cX7_check 104 = .ok (.getfield 46, 3) := by decide +kernel
theorem dX7_check_107 : decode cX7_check 107 = .ok (.iload_n 3, 1) := by decide +kernel
theorem dX7_check_108 : decode cX7_check 108 = .ok (.iaload, 1) := by decide +kernel
theorem dX7_check_109 : decode cX7_check 109 = .ok (.aload_n 0, 1) := by decide +kernel
theorem dX7_check_110 : decode cX7_check 110 = .ok (.getfield 46, 3) := by decide +kernel
theorem dX7_check_113 : decode cX7_check 113 = .ok (.iload 4, 2) := by decide +kernel
theorem dX7_check_115 : decode cX7_check 115 = .ok (.iaload, 1) := by decide +kernel
theorem dX7_check_116 : decode cX7_check 116 = .ok (.invokevirtual 203, 3) := by decide +kernel
theorem dX7_check_119 : decode cX7_check 119 = .ok (.istore_n 1, 1) := by decide +kernel
theorem dX7_check_120 : decode cX7_check 120 = .ok (.iinc 4 1, 3) := by decide +kernel
theorem dX7_check_123 : decode cX7_check 123 = .ok (.goto (-48), 3) := by decide +kernel
theorem dX7_check_126 : decode cX7_check 126 = .ok (.iinc 3 1, 3) := by decide +kernel
theorem dX7_check_129 : decode cX7_check 129 = .ok (.goto (-90), 3) := by decide +kernel
theorem dX7_check_132 : decode cX7_check 132 = .ok (.iinc 2 1, 3) := by decide +kernel
theorem dX7_check_135 : decode cX7_check 135 = .ok (.goto (-108), 3) := by decide +kernel
theorem dX7_check_138 : decode cX7_check 138 = .ok (.iload_n 1, 1) := by decide +kernel
theorem dX7_check_139 : decode cX7_check 139 = .ok (.ifCond .eq 7, 3) := by decide +kernel
theorem dX7_check_142 : decode cX7_check 142 = .ok (.iconst 1, 1) := by decide +kernel
theorem dX7_check_143 : decode cX7_check 143 = .ok (.goto 4, 3) := by decide +kernel
theorem dX7_check_146 : decode cX7_check 146 = .ok (.iconst 0, 1) := by decide +kernel
theorem dX7_check_147 : decode cX7_check 147 = .ok (.ireturn, 1) := by decide +kernel
theorem dX7_on_0 : decode cX7_on 0 = .ok (.aload_n 0, 1) := by decide +kernel
theorem dX7_on_1 : decode cX7_on 1 = .ok (.getfield 46, 3) := by decide +kernel
theorem dX7_on_4 : decode cX7_on 4 = .ok (.aload_n 0, 1) := by decide +kernel
theorem dX7_on_5 : decode cX7_on 5 = .ok (.getfield 22, 3) := by decide +kernel
theorem dX7_on_8 : decode cX7_on 8 = .ok (.iconst 5, 1) := by decide +kernel
theorem dX7_on_9 : decode cX7_on 9 = .ok (.iload_n 1, 1) := by decide +kernel
theorem dX7_on_10 : decode cX7_on 10 = .ok (.imul, 1) := by decide +kernel
theorem dX7_on_11 : decode cX7_on 11 = .ok (.iload_n 2, 1) := by decide +kernel
theorem dX7_on_12 : decode cX7_on 12 = .ok (.iadd, 1) := by decide +kernel
theorem dX7_on_13 : decode cX7_on 13 = .ok (.iaload, 1) := by decide +kernel
theorem dX7_on_14 : decode cX7_on 14 = .ok (.iaload, 1) := by decide +kernel
theorem dX7_on_15 : decode cX7_on 15 = .ok (.ireturn, 1) := by decide +kernel
set_option maxRecDepth 20000 in
theorem ggX7_meet_X7_isIn : GoodIn wsX7_meet wsX7_isIn := goodIn_r _ [8] (by decide +kernel) (by decide +kernel)
set_option maxRecDepth 20000 in
theorem gX7_meet_X7_isIn : GoodIn wsX7_meet (va_wsS RX7 125 yX7_isIn wsX7_isIn) := goodIn_app (goodIn_of _ (by decide +kernel)) ggX7_meet_X7_isIn
set_option maxRecDepth 20000 in
theorem ggX7_meet_X7_layField : GoodIn wsX7_meet wsX7_layField := goodIn_r _ [12, 13, 14, 15, 16, 17, 18, 7, 19, 20, 21, 22, 33, 34, 35, 36, 37, 38, 39, 40, 41, 42, 43, 44, 45, 46, 47, 48, 49, 50, 51, 52, 53, 54, 55, 56, 57, 58, 59, 60, 61, 62, 63, 64, 65, 66, 67, 68, 69, 70, 71, 72, 73, 74, 75, 76, 77, 78, 79, 80, 81, 82, 83, 84, 85] (by decide +kernel) (by decide +kernel)
set_option maxRecDepth 20000 in
theorem gX7_meet_X7_layField : GoodIn wsX7_meet (wsV RX7 195 RX7 yX7_layField wsX7_layField) := goodIn_app (goodIn_of _ (by decide +kernel)) ggX7_meet_X7_layField
set_option maxRecDepth 20000 in
theorem ggX7_meet_X7_placesOf : GoodIn wsX7_meet wsX7_placesOf := goodIn_r _ [19] (by decide +kernel) (by decide +kernel)
set_option maxRecDepth 20000 in
theorem gX7_meet_X7_placesOf : GoodIn wsX7_meet (va_wsS RX7 189 yX7_placesOf wsX7_placesOf) := goodIn_app (goodIn_of _ (by decide +kernel)) ggX7_meet_X7_placesOf
set_option maxRecDepth 20000 in
theorem ggX7_meet_X7_on : GoodIn wsX7_meet wsX7_on := goodIn_r _ [26, 27, 28, 33, 34, 35, 36, 37, 38, 39, 40, 41, 42, 43, 44, 45, 46, 47, 48, 49, 50, 51, 52, 53, 54, 55, 56, 57, 58, 59, 60, 61, 62, 63, 64, 65, 66, 67, 68, 69, 70, 71, 72, 73, 74, 75, 76, 77, 78, 79, 80, 81, 82, 83, 84, 85] (by decide +kernel) (by decide +kernel)
set_option maxRecDepth 20000 in
theorem gX7_meet_X7_on : GoodIn wsX7_meet (wsV RX7 222 RX7 yX7_on wsX7_on) := goodIn_app (goodIn_of _ (by decide +kernel)) ggX7_meet_X7_on
set_option maxRecDepth 20000 in
theorem ggX7_meet_X7_valueOf : GoodIn wsX7_meet wsX7_valueOf := goodIn_r _ [32, 14, 15, 16, 33, 34, 35, 36, 37, 38, 39, 40, 41, 42, 43, 44, 45, 46, 47, 48, 49, 50, 51, 52, 53, 54, 55, 56, 57, 58, 59, 60, 61, 62, 63, 64, 65, 66, 67, 68, 69, 70, 71, 72, 73, 74, 75, 76, 77, 78, 79, 80, 81, 82, 83, 84, 85] (by decide +kernel) (by decide +kernel)
set_option maxRecDepth 20000 in
theorem gX7_meet_X7_valueOf : GoodIn wsX7_meet (wsV RX7 199 RX7 yX7_valueOf wsX7_valueOf) := goodIn_app (goodIn_of _ (by decide +kernel)) ggX7_meet_X7_valueOf
theorem dX7_meet_0 : decode cX7_meet 0 = .ok (.aload_n 0, 1) := by decide +kernel
theorem dX7_meet_1 : decode cX7_meet 1 = .ok (.iconst 0, 1) := by decide +kernel
theorem dX7_meet_2 : decode cX7_meet 2 = .ok (.putfield 122, 3) := by decide +kernel
theorem dX7_meet_5 : decode cX7_meet 5 = .ok (.iload_n 1, 1) := by decide +kernel
theorem dX7_meet_6 : decode cX7_meet 6 = .ok (.iconst 0, 1) := by decide +kernel
theorem dX7_meet_7 : decode cX7_meet 7 = .ok (.aload_n 0, 1) := by decide +kernel
theorem dX7_meet_8 : decode cX7_meet 8 = .ok (.getfield 146, 3) := by decide +kernel
theorem dX7_meet_11 : decode cX7_meet 11 = .ok (.iconst 1, 1) := by decide +kernel
theorem dX7_meet_12 : decode cX7_meet 12 = .ok (.isub, 1) := by decide +kernel
theorem dX7_meet_13 : decode cX7_meet 13 = .ok (.invokestatic 125, 3) := by decide +kernel
theorem dX7_meet_16 : decode cX7_meet 16 = .ok (.ifCond .eq 22, 3) := by decide +kernel
theorem dX7_meet_19 : decode cX7_meet 19 = .ok (.iload_n 2, 1) := by decide +kernel
theorem dX7_meet_20 : decode cX7_meet 20 = .ok (.iconst 0, 1) := by decide +kernel
theorem dX7_meet_21 : decode cX7_meet 21 = .ok (.aload_n 0, 1) := by decide +kernel
theorem dX7_meet_22 : decode cX7_meet 22 = .ok (.getfield 146, 3) := by decide +kernel
theorem dX7_meet_25 : decode cX7_meet 25 = .ok (.iconst 1, 1) := by decide +kernel
theorem dX7_meet_26 : decode cX7_meet 26 = .ok (.isub, 1) := by decide +kernel
theorem dX7_meet_27 : decode cX7_meet 27 = .ok (.invokestatic 125, 3) := by decide +kernel
theorem dX7_meet_30 : decode cX7_meet 30 = .ok (.ifCond .eq 8, 3) := by decide +kernel
theorem dX7_meet_33 : decode cX7_meet 33 = .ok (.iload_n 1, 1) := by decide +kernel
theorem dX7_meet_34 : decode cX7_meet 34 = .ok (.iload_n 2, 1) := by decide +kernel
theorem dX7_meet_35 : decode cX7_meet 35 = .ok (.if_icmp .ne 6, 3) := by decide +kernel
theorem dX7_meet_38 : decode cX7_meet 38 = .ok (.bipush (-9), 2) := by decide +kernel
theorem dX7_meet_40 : decode cX7_meet 40 = .ok (.ireturn, 1) := by decide +kernel
theorem dX7_meet_41 : decode cX7_meet 41 = .ok (.aload_n 0, 1) := by decide +kernel
theorem dX7_meet_42 : decode cX7_meet 42 = .ok (.getfield 158, 3) := by decide +kernel
theorem dX7_meet_45 : decode cX7_meet 45 = .ok (.ifCond .eq 10, 3) := by decide +kernel
theorem dX7_meet_48 : decode cX7_meet 48 = .ok (.aload_n 0, 1) := by decide +kernel
theorem dX7_meet_49 : decode cX7_meet 49 = .ok (.getfield 219, 3) := by decide +kernel
theorem dX7_meet_52 : decode cX7_meet 52 = .ok (.ifCond .ne 6, 3) := by decide +kernel
theorem dX7_meet_55 : decode cX7_meet 55 = .ok (.bipush (-2), 2) := by decide +kernel
theorem dX7_meet_57 : decode cX7_meet 57 = .ok (.ireturn, 1) := by decide +kernel
theorem dX7_meet_58 : decode cX7_meet 58 = .ok (.aload_n 0, 1) := by decide +kernel
theorem dX7_meet_59 : decode cX7_meet 59 = .ok (.aload_n 0, 1) := by decide +kernel
theorem dX7_meet_60 : decode cX7_meet 60 = .ok (.getfield 219, 3) := by decide +kernel
theorem dX7_meet_63 : decode cX7_meet 63 = .ok (.invokevirtual 195, 3) := by decide +kernel
theorem dX7_meet_66 : decode cX7_meet 66 = .ok (.bipush (-4), 2) := by decide +kernel
theorem dX7_meet_68 : decode cX7_meet 68 = .ok (.istore_n 3, 1) := by decide +kernel
theorem dX7_meet_69 : decode cX7_meet 69 = .ok (.iconst 0, 1) := by decide +kernel
theorem dX7_meet_70 : decode cX7_meet 70 = .ok (.istore 4, 2) := by decide +kernel
theorem dX7_meet_72 : decode cX7_meet 72 = .ok (.iconst 0, 1) := by decide +kernel
theorem dX7_meet_73 : decode cX7_meet 73 = .ok (.istore 5, 2) := by decide +kernel
theorem dX7_meet_75 : decode cX7_meet 75 = .ok (.iload 5, 2) := by decide +kernel
theorem dX7_meet_77 : decode cX7_meet 77 = .ok (.aload_n 0, 1) := by decide +kernel
theorem dX7_meet_78 : decode cX7_meet 78 = .ok (.getfield 219, 3) := by decide +kernel
theorem dX7_meet_81 : decode cX7_meet 81 = .ok (.invokestatic 189, 3) := by decide +kernel
theorem dX7_meet_84 : decode cX7_meet 84 = .ok (.if_icmp .ge 65, 3) := by decide +kernel
theorem dX7_meet_87 : decode cX7_meet 87 = .ok (.aload_n 0, 1) := by decide +kernel
theorem dX7_meet_88 : decode cX7_meet 88 = .ok (.aload_n 0, 1) := by decide +kernel
theorem dX7_meet_89 : decode cX7_meet 89 = .ok (.getfield 219, 3) := by decide +kernel
theorem dX7_meet_92 : decode cX7_meet 92 = .ok (.iload 5, 2) := by decide +kernel
theorem dX7_meet_94 : decode cX7_meet 94 = .ok (.aload_n 0, 1) := by decide +kernel
theorem dX7_meet_95 : decode cX7_meet 95 = .ok (.iload_n 1, 1) := by decide +kernel
theorem dX7_meet_96 : decode cX7_meet 96 = .ok (.iconst 0, 1) := by decide +kernel
theorem dX7_meet_97 : decode cX7_meet 97 = .ok (.invokevirtual 222, 3) := by decide +kernel
theorem dX7_meet_100 : decode cX7_meet 100 = .ok (.aload_n 0, 1) := by decide +kernel
theorem dX7_meet_101 : decode cX7_meet 101 = .ok (.iload_n 1, 1) := by decide +kernel
theorem dX7_meet_102 : decode cX7_meet 102 = .ok (.iconst 1, 1) := by decide +kernel
theorem dX7_meet_103 : decode cX7_meet 103 = .ok (.invokevirtual 222, 3) := by decide +kernel
theorem dX7_meet_106 : decode cX7_meet 106 = .ok (.invokevirtual 199, 3) := by decide +kernel
theorem dX7_meet_109 : decode cX7_meet 109 = .ok (.ifCond .ne 34, 3) := by decide +kernel
theorem dX7_meet_112 : decode cX7_meet 112 = .ok (.aload_n 0, 1) := by decide +kernel
theorem dX7_meet_113 : decode cX7_meet 113 = .ok (.aload_n 0, 1) := by decide +kernel
theorem dX7_meet_114 : decode cX7_meet 114 = .ok (.getfield 219, 3) := by decide +kernel
theorem dX7_meet_117 : decode cX7_meet 117 = .ok (.iload 5, 2) := by decide +kernel
theorem dX7_meet_119 : decode cX7_meet 119 = .ok (.aload_n 0, 1) := by decide +kernel
theorem dX7_meet_120 : decode cX7_meet 120 = .ok (.iload_n 2, 1) := by decide +kernel
theorem dX7_meet_121 : decode cX7_meet 121 = .ok (.iconst 0, 1) := by decide +kernel
theorem dX7_meet_122 : decode cX7_meet 122 = .ok (.invokevirtual 222, 3) := by decide +kernel
theorem dX7_meet_125 : decode cX7_meet 125 = .ok (.aload_n 0, 1) := by decide +kernel
theorem dX7_meet_126 : decode cX7_meet 126 = .ok (.iload_n 2, 1) := by decide +kernel
theorem dX7_meet_127 : decode cX7_meet 127 = .ok (.iconst 1, 1) := by decide +kernel
theorem dX7_meet_128 : decode cX7_meet 128 = .ok (.invokevirtual 222, 3) := by decide +kernel
theorem dX7_meet_131 : decode cX7_meet 131 = .ok (.invokevirtual 199, 3) := by decide +kernel
theorem dX7_meet_134 : decode cX7_meet 134 = .ok (.ifCond .ne 9, 3) := by decide +kernel
theorem dX7_meet_137 : decode cX7_meet 137 = .ok (.iload 5, 2) := by decide +kernel
theorem dX7_meet_139 : decode cX7_meet 139 = .ok (.istore_n 3, 1) := by decide +kernel
theorem dX7_meet_140 : decode cX7_meet 140 = .ok (.iinc 4 1, 3) := by decide +kernel
theorem dX7_meet_143 : decode cX7_meet 143 = .ok (.iinc 5 1, 3) := by decide +kernel
theorem dX7_meet_146 : decode cX7_meet 146 = .ok (.goto (-71), 3) := by decide +kernel
theorem dX7_meet_149 : decode cX7_meet 149 = .ok (.aload_n 0, 1) := by decide +kernel
theorem dX7_meet_150 : decode cX7_meet 150 = .ok (.iload 4, 2) := by decide +kernel
theorem dX7_meet_152 : decode cX7_meet 152 = .ok (.iconst 1, 1) := by decide +kernel
theorem dX7_meet_153 : decode cX7_meet 153 = .ok (.if_icmp .le 7, 3) := by decide +kernel
theorem dX7_meet_156 : decode cX7_meet 156 = .ok (.iconst 1, 1) := by decide +kernel
theorem dX7_meet_157 : decode cX7_meet 157 = .ok (.goto 4, 3) := by decide +kernel
theorem dX7_meet_160 : decode cX7_meet 160 = .ok (.iconst 0, 1) := by decide +kernel
theorem dX7_meet_161 : decode cX7_meet 161 = .ok (.putfield 122, 3) := by decide +kernel
theorem dX7_meet_164 : decode cX7_meet 164 = .ok (.iload 4, 2) := by decide +kernel
theorem dX7_meet_166 : decode cX7_meet 166 = .ok (.iconst 1, 1) := by decide +kernel
theorem dX7_meet_167 : decode cX7_meet 167 = .ok (.if_icmp .le 7, 3) := by decide +kernel
theorem dX7_meet_170 : decode cX7_meet 170 = .ok (.iconst 0, 1) := by decide +kernel
theorem dX7_meet_171 : decode cX7_meet 171 = .ok (.goto 4, 3) := by decide +kernel
theorem dX7_meet_174 : decode cX7_meet 174 = .ok (.iload_n 3, 1) := by decide +kernel
theorem dX7_meet_175 : decode cX7_meet 175 = .ok (.ireturn, 1) := by decide +kernel
set_option maxRecDepth 20000 in
theorem ggX7_meets_X7_meet : GoodIn wsX7_meets wsX7_meet := goodIn_r _ [6, 1, 7, 8, 9, 10, 11, 5, 12, 13, 14, 15, 16, 17, 18, 19, 20, 21, 22, 23, 24, 25, 26, 27, 28, 29, 30, 31, 32, 33, 34, 35, 36, 37, 38, 39, 40, 41, 42, 43, 44, 45, 46, 47, 48, 49, 50, 51, 52, 53, 54, 55, 56, 57, 58, 59, 60, 61, 62, 63, 64, 65, 66, 67, 68, 69, 70, 71, 72, 73, 74, 75, 76, 77, 78, 79, 80, 81, 82, 83, 84, 85, 86, 87, 88, 89] (by decide +kernel) (by decide +kernel)
set_option maxRecDepth 20000 in
theorem gX7_meets_X7_meet : GoodIn wsX7_meets (wsV RX7 226 RX7 yX7_meet wsX7_meet) := goodIn_app (goodIn_of _ (by decide +kernel)) ggX7_meets_X7_meet
theorem dX7_meets_0 : decode cX7_meets 0 = .ok (.aload_n 0, 1) := by decide +kernel
theorem dX7_meets_1 : decode cX7_meets 1 = .ok (.iload_n 1, 1) := by decide +kernel
theorem dX7_meets_2 : decode cX7_meets 2 = .ok (.iload_n 2, 1) := by decide +kernel
theorem dX7_meets_3 : decode cX7_meets 3 = .ok (.invokevirtual 226, 3) := by decide +kernel
theorem dX7_meets_6 : decode cX7_meets 6 = .ok (.istore_n 3, 1) := by decide +kernel
theorem dX7_meets_7 : decode cX7_meets 7 = .ok (.aload_n 0, 1) := by decide +kernel
theorem dX7_meets_8 : decode cX7_meets 8 = .ok (.getfield 122, 3) := by decide +kernel
theorem dX7_meets_11 : decode cX7_meets 11 = .ok (.iconst 1, 1) := by decide +kernel
theorem dX7_meets_12 : decode cX7_meets 12 = .ok (.if_icmp .ne 7, 3) := by decide +kernel
theorem dX7_meets_15 : decode cX7_meets 15 = .ok (.iconst 1, 1) := by decide +kernel
theorem dX7_meets_16 : decode cX7_meets 16 = .ok (.goto 4, 3) := by decide +kernel
theorem dX7_meets_19 : decode cX7_meets 19 = .ok (.iconst 0, 1) := by decide +kernel
theorem dX7_meets_20 : decode cX7_meets 20 = .ok (.istore 4, 2) := by decide +kernel
theorem dX7_meets_22 : decode cX7_meets 22 = .ok (.aload_n 0, 1) := by decide +kernel
theorem dX7_meets_23 : decode cX7_meets 23 = .ok (.iconst 0, 1) := by decide +kernel
theorem dX7_meets_24 : decode cX7_meets 24 = .ok (.putfield 122, 3) := by decide +kernel
theorem dX7_meets_27 : decode cX7_meets 27 = .ok (.iload 4, 2) := by decide +kernel
theorem dX7_meets_29 : decode cX7_meets 29 = .ok (.ifCond .eq 8, 3) := by decide +kernel
theorem dX7_meets_32 : decode cX7_meets 32 = .ok (.bipush (-4), 2) := by decide +kernel
theorem dX7_meets_34 : decode cX7_meets 34 = .ok (.goto 4, 3) := by decide +kernel
theorem dX7_meets_37 : decode cX7_meets 37 = .ok (.iload_n 3, 1) := by decide +kernel
theorem dX7_meets_38 : decode cX7_meets 38 = .ok (.ireturn, 1) := by decide +kernel
set_option maxRecDepth 20000 in
theorem ggX7_pivot_X7_isPrime : GoodIn wsX7_pivot wsX7_isPrime := goodIn_r _ [5] (by decide +kernel) (by decide +kernel)
set_option maxRecDepth 20000 in
theorem gX7_pivot_X7_isPrime : GoodIn wsX7_pivot (va_wsS RX7 207 yX7_isPrime wsX7_isPrime) := goodIn_app (goodIn_of _ (by decide +kernel)) ggX7_pivot_X7_isPrime
theorem dX7_pivot_0 : decode cX7_pivot 0 = .ok (.aload_n 0, 1) := by decide +kernel
theorem dX7_pivot_1 : decode cX7_pivot 1 = .ok (.iconst 0, 1) := by decide +kernel
theorem dX7_pivot_2 : decode cX7_pivot 2 = .ok (.putfield 122, 3) := by decide +kernel
theorem dX7_pivot_5 : decode cX7_pivot 5 = .ok (.iload_n 1, 1) := by decide +kernel
theorem dX7_pivot_6 : decode cX7_pivot 6 = .ok (.invokestatic 207, 3) := by decide +kernel
theorem dX7_pivot_9 : decode cX7_pivot 9 = .ok (.ifCond .ne 6, 3) := by decide +kernel
theorem dX7_pivot_12 : decode cX7_pivot 12 = .ok (.bipush (-9), 2) := by decide +kernel
theorem dX7_pivot_14 : decode cX7_pivot 14 = .ok (.ireturn, 1) := by decide +kernel
theorem dX7_pivot_15 : decode cX7_pivot 15 = .ok (.iload_n 3, 1) := by decide +kernel
theorem dX7_pivot_16 : decode cX7_pivot 16 = .ok (.iload_n 1, 1) := by decide +kernel
theorem dX7_pivot_17 : decode cX7_pivot 17 = .ok (.irem, 1) := by decide +kernel
theorem dX7_pivot_18 : decode cX7_pivot 18 = .ok (.ifCond .ne 10, 3) := by decide +kernel
theorem dX7_pivot_21 : decode cX7_pivot 21 = .ok (.aload_n 0, 1) := by decide +kernel
theorem dX7_pivot_22 : decode cX7_pivot 22 = .ok (.iconst 1, 1) := by decide +kernel
theorem dX7_pivot_23 : decode cX7_pivot 23 = .ok (.putfield 122, 3) := by decide +kernel
theorem dX7_pivot_26 : decode cX7_pivot 26 = .ok (.iconst 0, 1) := by decide +kernel
theorem dX7_pivot_27 : decode cX7_pivot 27 = .ok (.ireturn, 1) := by decide +kernel
theorem dX7_pivot_28 : decode cX7_pivot 28 = .ok (.iconst 0, 1) := by decide +kernel
theorem dX7_pivot_29 : decode cX7_pivot 29 = .ok (.istore 4, 2) := by decide +kernel
theorem dX7_pivot_31 : decode cX7_pivot 31 = .ok (.iload 4, 2) := by decide +kernel
theorem dX7_pivot_33 : decode cX7_pivot 33 = .ok (.i2l, 1) := by decide +kernel
theorem dX7_pivot_34 : decode cX7_pivot 34 = .ok (.iload_n 3, 1) := by decide +kernel
theorem dX7_pivot_35 : decode cX7_pivot 35 = .ok (.i2l, 1) := by decide +kernel
theorem dX7_pivot_36 : decode cX7_pivot 36 = .ok (.lmul, 1) := by decide +kernel
theorem dX7_pivot_37 : decode cX7_pivot 37 = .ok (.iload_n 2, 1) := by decide +kernel
theorem dX7_pivot_38 : decode cX7_pivot 38 = .ok (.i2l, 1) := by decide +kernel
theorem dX7_pivot_39 : decode cX7_pivot 39 = .ok (.lsub, 1) := by decide +kernel
theorem dX7_pivot_40 : decode cX7_pivot 40 = .ok (.iload_n 1, 1) := by decide +kernel
theorem dX7_pivot_41 : decode cX7_pivot 41 = .ok (.i2l, 1) := by decide +kernel
theorem dX7_pivot_42 : decode cX7_pivot 42 = .ok (.lrem, 1) := by decide +kernel
theorem dX7_pivot_43 : decode cX7_pivot 43 = .ok (.lconst 0, 1) := by decide +kernel
theorem dX7_pivot_44 : decode cX7_pivot 44 = .ok (.lcmp, 1) := by decide +kernel
theorem dX7_pivot_45 : decode cX7_pivot 45 = .ok (.ifCond .eq 9, 3) := by decide +kernel
theorem dX7_pivot_48 : decode cX7_pivot 48 = .ok (.iinc 4 1, 3) := by decide +kernel
theorem dX7_pivot_51 : decode cX7_pivot 51 = .ok (.goto (-20), 3) := by decide +kernel
theorem dX7_pivot_54 : decode cX7_pivot 54 = .ok (.iload 4, 2) := by decide +kernel
theorem dX7_pivot_56 : decode cX7_pivot 56 = .ok (.ireturn, 1) := by decide +kernel
theorem dX7_placeIn_0 : decode cX7_placeIn 0 = .ok (.iload_n 0, 1) := by decide +kernel
theorem dX7_placeIn_1 : decode cX7_placeIn 1 = .ok (.iload_n 1, 1) := by decide +kernel
theorem dX7_placeIn_2 : decode cX7_placeIn 2 = .ok (.if_icmp .ge 16, 3) := by decide +kernel
theorem dX7_placeIn_5 : decode cX7_placeIn 5 = .ok (.iload_n 0, 1) := by decide +kernel
theorem dX7_placeIn_6 : decode cX7_placeIn 6 = .ok (.iload_n 2, 1) := by decide +kernel
theorem dX7_placeIn_7 : decode cX7_placeIn 7 = .ok (.if_icmp .ge 7, 3) := by decide +kernel
theorem dX7_placeIn_10 : decode cX7_placeIn 10 = .ok (.iload_n 0, 1) := by decide +kernel
theorem dX7_placeIn_11 : decode cX7_placeIn 11 = .ok (.goto 17, 3) := by decide +kernel
theorem dX7_placeIn_14 : decode cX7_placeIn 14 = .ok (.iload_n 2, 1) := by decide +kernel
theorem dX7_placeIn_15 : decode cX7_placeIn 15 = .ok (.goto 13, 3) := by decide +kernel
theorem dX7_placeIn_18 : decode cX7_placeIn 18 = .ok (.iload_n 1, 1) := by decide +kernel
theorem dX7_placeIn_19 : decode cX7_placeIn 19 = .ok (.iload_n 2, 1) := by decide +kernel
theorem dX7_placeIn_20 : decode cX7_placeIn 20 = .ok (.if_icmp .ge 7, 3) := by decide +kernel
theorem dX7_placeIn_23 : decode cX7_placeIn 23 = .ok (.iload_n 1, 1) := by decide +kernel
theorem dX7_placeIn_24 : decode cX7_placeIn 24 = .ok (.goto 4, 3) := by decide +kernel
theorem dX7_placeIn_27 : decode cX7_placeIn 27 = .ok (.iload_n 2, 1) := by decide +kernel
theorem dX7_placeIn_28 : decode cX7_placeIn 28 = .ok (.istore_n 3, 1) := by decide +kernel
theorem dX7_placeIn_29 : decode cX7_placeIn 29 = .ok (.iload_n 0, 1) := by decide +kernel
theorem dX7_placeIn_30 : decode cX7_placeIn 30 = .ok (.iload_n 1, 1) := by decide +kernel
theorem dX7_placeIn_31 : decode cX7_placeIn 31 = .ok (.if_icmp .le 16, 3) := by decide +kernel
theorem dX7_placeIn_34 : decode cX7_placeIn 34 = .ok (.iload_n 0, 1) := by decide +kernel
theorem dX7_placeIn_35 : decode cX7_placeIn 35 = .ok (.iload_n 2, 1) := by decide +kernel
theorem dX7_placeIn_36 : decode cX7_placeIn 36 = .ok (.if_icmp .le 7, 3) := by decide +kernel
theorem dX7_placeIn_39 : decode cX7_placeIn 39 = .ok (.iload_n 0, 1) := by decide +kernel
theorem dX7_placeIn_40 : decode cX7_placeIn 40 = .ok (.goto 17, 3) := by decide +kernel
theorem dX7_placeIn_43 : decode cX7_placeIn 43 = .ok (.iload_n 2, 1) := by decide +kernel
theorem dX7_placeIn_44 : decode cX7_placeIn 44 = .ok (.goto 13, 3) := by decide +kernel
theorem dX7_placeIn_47 : decode cX7_placeIn 47 = .ok (.iload_n 1, 1) := by decide +kernel
theorem dX7_placeIn_48 : decode cX7_placeIn 48 = .ok (.iload_n 2, 1) := by decide +kernel
theorem dX7_placeIn_49 : decode cX7_placeIn 49 = .ok (.if_icmp .le 7, 3) := by decide +kernel
theorem dX7_placeIn_52 : decode cX7_placeIn 52 = .ok (.iload_n 1, 1) := by decide +kernel
theorem dX7_placeIn_53 : decode cX7_placeIn 53 = .ok (.goto 4, 3) := by decide +kernel
theorem dX7_placeIn_56 : decode cX7_placeIn 56 = .ok (.iload_n 2, 1) := by decide +kernel
theorem dX7_placeIn_57 : decode cX7_placeIn 57 = .ok (.istore 4, 2) := by decide +kernel
theorem dX7_placeIn_59 : decode cX7_placeIn 59 = .ok (.bipush 100, 2) := by decide +kernel
theorem dX7_placeIn_61 : decode cX7_placeIn 61 = .ok (.iload_n 3, 1) := by decide +kernel
theorem dX7_placeIn_62 : decode cX7_placeIn 62 = .ok (.imul, 1) := by decide +kernel
theorem dX7_placeIn_63 : decode cX7_placeIn 63 = .ok (.bipush 10, 2) := by decide +kernel
theorem dX7_placeIn_65 : decode cX7_placeIn 65 = .ok (.iload_n 0, 1) := by decide +kernel
theorem dX7_placeIn_66 : decode cX7_placeIn 66 = .ok (.iload_n 1, 1) := by decide +kernel
theorem dX7_placeIn_67 : decode cX7_placeIn 67 = .ok (.iadd, 1) := by decide +kernel
theorem dX7_placeIn_68 : decode cX7_placeIn 68 = .ok (.iload_n 2, 1) := by decide +kernel
theorem dX7_placeIn_69 : decode cX7_placeIn 69 = .ok (.iadd, 1) := by decide +kernel
theorem dX7_placeIn_70 : decode cX7_placeIn 70 = .ok (.iload_n 3, 1) := by decide +kernel
theorem dX7_placeIn_71 : decode cX7_placeIn 71 = .ok (.isub, 1) := by decide +kernel
theorem dX7_placeIn_72 : decode cX7_placeIn 72 = .ok (.iload 4, 2) := by decide +kernel
theorem dX7_placeIn_74 : decode cX7_placeIn 74 = .ok (.isub, 1) := by decide +kernel
theorem dX7_placeIn_75 : decode cX7_placeIn 75 = .ok (.imul, 1) := by decide +kernel
theorem dX7_placeIn_76 : decode cX7_placeIn 76 = .ok (.iadd, 1) := by decide +kernel
theorem dX7_placeIn_77 : decode cX7_placeIn 77 = .ok (.iload 4, 2) := by decide +kernel
theorem dX7_placeIn_79 : decode cX7_placeIn 79 = .ok (.iadd, 1) := by decide +kernel
theorem dX7_placeIn_80 : decode cX7_placeIn 80 = .ok (.ireturn, 1) := by decide +kernel
set_option maxRecDepth 20000 in
theorem ggX7_layTable_X7_maskOf : GoodIn wsX7_layTable wsX7_maskOf := goodIn_r _ [7] (by decide +kernel) (by decide +kernel)
set_option maxRecDepth 20000 in
theorem gX7_layTable_X7_maskOf : GoodIn wsX7_layTable (va_wsS RX7 171 yX7_maskOf wsX7_maskOf) := goodIn_app (goodIn_of _ (by decide +kernel)) ggX7_layTable_X7_maskOf
set_option maxRecDepth 20000 in
theorem ggX7_layTable_X7_orientAt : GoodIn wsX7_layTable wsX7_orientAt := goodIn_r _ [11, 12, 13, 27, 28, 29, 30, 31, 32, 33, 34, 35, 36, 37, 38, 39, 40, 41, 42, 43, 44, 45, 46, 47, 48, 49, 50, 51, 52, 53, 54, 55, 56, 57, 58, 59, 60, 61, 62, 63, 64, 65, 66, 67, 68, 69, 70, 71, 72, 73, 74, 75, 76, 77, 78, 79] (by decide +kernel) (by decide +kernel)
set_option maxRecDepth 20000 in
theorem gX7_layTable_X7_orientAt : GoodIn wsX7_layTable (wsV RX7 186 RX7 yX7_orientAt wsX7_orientAt) := goodIn_app (goodIn_of _ (by decide +kernel)) ggX7_layTable_X7_orientAt
set_option maxRecDepth 20000 in
theorem ggX7_layTable_X7_isFlat : GoodIn wsX7_layTable wsX7_isFlat := goodIn_r _ [17, 18, 19, 27, 28, 29, 30, 31, 32, 33, 34, 35, 36, 37, 38, 39, 40, 41, 42, 43, 44, 45, 46, 47, 48, 49, 50, 51, 52, 53, 54, 55, 56, 57, 58, 59, 60, 61, 62, 63, 64, 65, 66, 67, 68, 69, 70, 71, 72, 73, 74, 75, 76, 77, 78, 79] (by decide +kernel) (by decide +kernel)
set_option maxRecDepth 20000 in
theorem gX7_layTable_X7_isFlat : GoodIn wsX7_layTable (wsV RX7 175 RX7 yX7_isFlat wsX7_isFlat) := goodIn_app (goodIn_of _ (by decide +kernel)) ggX7_layTable_X7_isFlat
set_option maxRecDepth 20000 in
theorem ggX7_layTable_X7_layRow : GoodIn wsX7_layTable wsX7_layRow := goodIn_r _ [23, 24, 2, 25, 26, 27, 28, 29, 30, 31, 32, 33, 34, 35, 36, 37, 38, 39, 40, 41, 42, 43, 44, 45, 46, 47, 48, 49, 50, 51, 52, 53, 54, 55, 56, 57, 58, 59, 60, 61, 62, 63, 64, 65, 66, 67, 68, 69, 70, 71, 72, 73, 74, 75, 76, 77, 78, 79] (by decide +kernel) (by decide +kernel)
set_option maxRecDepth 20000 in
theorem gX7_layTable_X7_layRow : GoodIn wsX7_layTable (wsV RX7 229 RX7 yX7_layRow wsX7_layRow) := goodIn_app (goodIn_of _ (by decide +kernel)) ggX7_layTable_X7_layRow
theorem dX7_layTable_0 : decode cX7_layTable 0 = .ok (.iconst 0, 1) := by decide +kernel
theorem dX7_layTable_1 : decode cX7_layTable 1 = .ok (.istore_n 2, 1) := by decide +kernel
theorem dX7_layTable_2 : decode cX7_layTable 2 = .ok (.iload_n 2, 1) := by decide +kernel
theorem dX7_layTable_3 : decode cX7_layTable 3 = .ok (.aload_n 0, 1) := by decide +kernel
theorem dX7_layTable_4 : decode cX7_layTable 4 = .ok (.getfield 143, 3) := by decide +kernel
theorem dX7_layTable_7 : decode cX7_layTable 7 = .ok (.if_icmp .ge 113, 3) := by decide +kernel
theorem dX7_layTable_10 : decode cX7_layTable 10 = .ok (.iload_n 2, 1) := by decide +kernel
theorem dX7_layTable_11 : decode cX7_layTable 11 = .ok (.iconst 1, 1) := by decide +kernel
theorem dX7_layTable_12 : decode cX7_layTable 12 = .ok (.iadd, 1) := by decide +kernel
theorem dX7_layTable_13 : decode cX7_layTable 13 = .ok (.istore_n 3, 1) := by decide +kernel
theorem dX7_layTable_14 : decode cX7_layTable 14 = .ok (.iload_n 3, 1) := by decide +kernel
theorem dX7_layTable_15 : decode cX7_layTable 15 = .ok (.aload_n 0, 1) := by decide +kernel
theorem dX7_layTable_16 : decode cX7_layTable 16 = .ok (.getfield 143, 3) := by decide +kernel
theorem dX7_layTable_19 : decode cX7_layTable 19 = .ok (.if_icmp .ge 95, 3) := by decide +kernel
theorem dX7_layTable_22 : decode cX7_layTable 22 = .ok (.iload_n 3, 1) := by decide +kernel
theorem dX7_layTable_23 : decode cX7_layTable 23 = .ok (.iconst 1, 1) := by decide +kernel
theorem dX7_layTable_24 : decode cX7_layTable 24 = .ok (.iadd, 1) := by decide +kernel
theorem dX7_layTable_25 : decode cX7_layTable 25 = .ok (.istore 4, 2) := by decide +kernel
theorem dX7_layTable_27 : decode cX7_layTable 27 = .ok (.iload 4, 2) := by decide +kernel
theorem dX7_layTable_29 : decode cX7_layTable 29 = .ok (.aload_n 0, 1) := by decide +kernel
theorem dX7_layTable_30 : decode cX7_layTable 30 = .ok (.getfield 143, 3) := by decide +kernel
theorem dX7_layTable_33 : decode cX7_layTable 33 = .ok (.if_icmp .ge 75, 3) := by decide +kernel
theorem dX7_layTable_36 : decode cX7_layTable 36 = .ok (.iload_n 2, 1) := by decide +kernel
theorem dX7_layTable_37 : decode cX7_layTable 37 = .ok (.iload_n 3, 1) := by decide +kernel
theorem dX7_layTable_38 : decode cX7_layTable 38 = .ok (.iload 4, 2) := by decide +kernel
theorem dX7_layTable_40 : decode cX7_layTable 40 = .ok (.invokestatic 171, 3) := by decide +kernel
theorem dX7_layTable_43 : decode cX7_layTable 43 = .ok (.istore 5, 2) := by decide +kernel
theorem dX7_layTable_45 : decode cX7_layTable 45 = .ok (.aload_n 0, 1) := by decide +kernel
theorem dX7_layTable_46 : decode cX7_layTable 46 = .ok (.iload 5, 2) := by decide +kernel
theorem dX7_layTable_48 : decode cX7_layTable 48 = .ok (.invokevirtual 186, 3) := by decide +kernel
theorem dX7_layTable_51 : decode cX7_layTable 51 = .ok (.istore 6, 2) := by decide +kernel
theorem dX7_layTable_53 : decode cX7_layTable 53 = .ok (.aload_n 0, 1) := by decide +kernel
theorem dX7_layTable_54 : decode cX7_layTable 54 = .ok (.getfield 71, 3) := by decide +kernel
theorem dX7_layTable_57 : decode cX7_layTable 57 = .ok (.bipush 100, 2) := by decide +kernel
theorem dX7_layTable_59 : decode cX7_layTable 59 = .ok (.iload_n 2, 1) := by decide +kernel
theorem dX7_layTable_60 : decode cX7_layTable 60 = .ok (.imul, 1) := by decide +kernel
theorem dX7_layTable_61 : decode cX7_layTable 61 = .ok (.bipush 10, 2) := by decide +kernel
theorem dX7_layTable_63 : decode cX7_layTable 63 = .ok (.iload_n 3, 1) := by decide +kernel
theorem dX7_layTable_64 : decode cX7_layTable 64 = .ok (.imul, 1) := by decide +kernel
theorem dX7_layTable_65 : decode cX7_layTable 65 = .ok (.iadd, 1) := by decide +kernel
theorem dX7_layTable_66 : decode cX7_layTable 66 = .ok (.iload 4, 2) := by decide +kernel
theorem dX7_layTable_68 : decode cX7_layTable 68 = .ok (.iadd, 1) := by decide +kernel
theorem dX7_layTable_69 : decode cX7_layTable 69 = .ok (.aload_n 0, 1) := by decide +kernel
theorem dX7_layTable_70 : decode cX7_layTable 70 = .ok (.iload 5, 2) := by decide +kernel
theorem dX7_layTable_72 : decode cX7_layTable 72 = .ok (.invokevirtual 175, 3) := by decide +kernel
theorem dX7_layTable_75 : decode cX7_layTable 75 = .ok (.ifCond .eq 7, 3) := by decide +kernel
theorem dX7_layTable_78 : decode cX7_layTable 78 = .ok (.iconst 0, 1) := by decide +kernel
theorem dX7_layTable_79 : decode cX7_layTable 79 = .ok (.goto 22, 3) := by decide +kernel
theorem dX7_layTable_82 : decode cX7_layTable 82 = .ok (.iload 6, 2) := by decide +kernel
theorem dX7_layTable_84 : decode cX7_layTable 84 = .ok (.bipush (-4), 2) := by decide +kernel
theorem dX7_layTable_86 : decode cX7_layTable 86 = .ok (.if_icmp .eq 13, 3) := by decide +kernel
theorem dX7_layTable_89 : decode cX7_layTable 89 = .ok (.aload_n 0, 1) := by decide +kernel
theorem dX7_layTable_90 : decode cX7_layTable 90 = .ok (.getfield 43, 3) := by decide +kernel
theorem dX7_layTable_93 : decode cX7_layTable 93 = .ok (.iload 6, 2) := by decide +kernel
theorem dX7_layTable_95 : decode cX7_layTable 95 = .ok (.iaload, 1) := by decide +kernel
theorem dX7_layTable_96 : decode cX7_layTable 96 = .ok (.goto 5, 3) := by decide +kernel
theorem dX7_layTable_99 : decode cX7_layTable 99 = .ok (.bipush 9, 2) := by decide +kernel
theorem dX7_layTable_101 : decode cX7_layTable 101 = .ok (.iastore, 1) := by decide +kernel
theorem dX7_layTable_102 : decode cX7_layTable 102 = .ok (.iinc 4 1, 3) := by decide +kernel
theorem dX7_layTable_105 : decode cX7_layTable 105 = .ok (.goto (-78), 3) := by decide +kernel
theorem dX7_layTable_108 : decode cX7_layTable 108 = .ok (.iinc 3 1, 3) := by decide +kernel
theorem dX7_layTable_111 : decode cX7_layTable 111 = .ok (.goto (-97), 3) := by decide +kernel
theorem dX7_layTable_114 : decode cX7_layTable 114 = .ok (.iinc 2 1, 3) := by decide +kernel
theorem dX7_layTable_117 : decode cX7_layTable 117 = .ok (.goto (-115), 3) := by decide +kernel
theorem dX7_layTable_120 : decode cX7_layTable 120 = .ok (.iconst 0, 1) := by decide +kernel
theorem dX7_layTable_121 : decode cX7_layTable 121 = .ok (.istore_n 2, 1) := by decide +kernel
theorem dX7_layTable_122 : decode cX7_layTable 122 = .ok (.iload_n 2, 1) := by decide +kernel
theorem dX7_layTable_123 : decode cX7_layTable 123 = .ok (.iload_n 1, 1) := by decide +kernel
theorem dX7_layTable_124 : decode cX7_layTable 124 = .ok (.if_icmp .ge 14, 3) := by decide +kernel
theorem dX7_layTable_127 : decode cX7_layTable 127 = .ok (.aload_n 0, 1) := by decide +kernel
theorem dX7_layTable_128 : decode cX7_layTable 128 = .ok (.iload_n 2, 1) := by decide +kernel
theorem dX7_layTable_129 : decode cX7_layTable 129 = .ok (.invokevirtual 229, 3) := by decide +kernel
theorem dX7_layTable_132 : decode cX7_layTable 132 = .ok (.iinc 2 1, 3) := by decide +kernel
theorem dX7_layTable_135 : decode cX7_layTable 135 = .ok (.goto (-13), 3) := by decide +kernel
theorem dX7_layTable_138 : decode cX7_layTable 138 = .ok (.return_, 1) := by decide +kernel
theorem dX7_layRow_0 : decode cX7_layRow 0 = .ok (.aload_n 0, 1) := by decide +kernel
theorem dX7_layRow_1 : decode cX7_layRow 1 = .ok (.getfield 74, 3) := by decide +kernel
theorem dX7_layRow_4 : decode cX7_layRow 4 = .ok (.iload_n 1, 1) := by decide +kernel
theorem dX7_layRow_5 : decode cX7_layRow 5 = .ok (.iaload, 1) := by decide +kernel
theorem dX7_layRow_6 : decode cX7_layRow 6 = .ok (.iconst 1, 1) := by decide +kernel
theorem dX7_layRow_7 : decode cX7_layRow 7 = .ok (.if_icmp .eq 20, 3) := by decide +kernel
theorem dX7_layRow_10 : decode cX7_layRow 10 = .ok (.aload_n 0, 1) := by decide +kernel
theorem dX7_layRow_11 : decode cX7_layRow 11 = .ok (.getfield 71, 3) := by decide +kernel
theorem dX7_layRow_14 : decode cX7_layRow 14 = .ok (.aload_n 0, 1) := by decide +kernel
theorem dX7_layRow_15 : decode cX7_layRow 15 = .ok (.getfield 80, 3) := by decide +kernel
theorem dX7_layRow_18 : decode cX7_layRow 18 = .ok (.iload_n 1, 1) := by decide +kernel
theorem dX7_layRow_19 : decode cX7_layRow 19 = .ok (.iaload, 1) := by decide +kernel
theorem dX7_layRow_20 : decode cX7_layRow 20 = .ok (.aload_n 0, 1) := by decide +kernel
theorem dX7_layRow_21 : decode cX7_layRow 21 = .ok (.getfield 83, 3) := by decide +kernel
theorem dX7_layRow_24 : decode cX7_layRow 24 = .ok (.iload_n 1, 1) := by decide +kernel
theorem dX7_layRow_25 : decode cX7_layRow 25 = .ok (.iaload, 1) := by decide +kernel
theorem dX7_layRow_26 : decode cX7_layRow 26 = .ok (.iastore, 1) := by decide +kernel
theorem dX7_layRow_27 : decode cX7_layRow 27 = .ok (.return_, 1) := by decide +kernel
set_option maxRecDepth 20000 in
theorem ggX7_signOf_X7_placeIn : GoodIn wsX7_signOf wsX7_placeIn := goodIn_r _ [5] (by decide +kernel) (by decide +kernel)
set_option maxRecDepth 20000 in
theorem gX7_signOf_X7_placeIn : GoodIn wsX7_signOf (va_wsS RX7 232 yX7_placeIn wsX7_placeIn) := goodIn_app (goodIn_of _ (by decide +kernel)) ggX7_signOf_X7_placeIn
set_option maxRecDepth 20000 in
theorem ggX7_signOf_X7_turnOf : GoodIn wsX7_signOf wsX7_turnOf := goodIn_r _ [8] (by decide +kernel) (by decide +kernel)
set_option maxRecDepth 20000 in
theorem gX7_signOf_X7_turnOf : GoodIn wsX7_signOf (va_wsS RX7 183 yX7_turnOf wsX7_turnOf) := goodIn_app (goodIn_of _ (by decide +kernel)) ggX7_signOf_X7_turnOf
theorem dX7_signOf_0 : decode cX7_signOf 0 = .ok (.aload_n 0, 1) := by decide +kernel
theorem dX7_signOf_1 : decode cX7_signOf 1 = .ok (.getfield 71, 3) := by decide +kernel
theorem dX7_signOf_4 : decode cX7_signOf 4 = .ok (.iload_n 1, 1) := by decide +kernel
theorem dX7_signOf_5 : decode cX7_signOf 5 = .ok (.iload_n 2, 1) := by decide +kernel
theorem dX7_signOf_6 : decode cX7_signOf 6 = .ok (.iload_n 3, 1) := by decide +kernel
theorem dX7_signOf_7 : decode cX7_signOf 7 = .ok (.invokestatic 232, 3) := by decide +kernel
theorem dX7_signOf_10 : decode cX7_signOf 10 = .ok (.iaload, 1) := by decide +kernel
theorem dX7_signOf_11 : decode cX7_signOf 11 = .ok (.istore 4, 2) := by decide +kernel
theorem dX7_signOf_13 : decode cX7_signOf 13 = .ok (.iload 4, 2) := by decide +kernel
theorem dX7_signOf_15 : decode cX7_signOf 15 = .ok (.bipush 9, 2) := by decide +kernel
theorem dX7_signOf_17 : decode cX7_signOf 17 = .ok (.if_icmp .ne 8, 3) := by decide +kernel
theorem dX7_signOf_20 : decode cX7_signOf 20 = .ok (.bipush 9, 2) := by decide +kernel
theorem dX7_signOf_22 : decode cX7_signOf 22 = .ok (.goto 12, 3) := by decide +kernel
theorem dX7_signOf_25 : decode cX7_signOf 25 = .ok (.iload 4, 2) := by decide +kernel
theorem dX7_signOf_27 : decode cX7_signOf 27 = .ok (.iload_n 1, 1) := by decide +kernel
theorem dX7_signOf_28 : decode cX7_signOf 28 = .ok (.iload_n 2, 1) := by decide +kernel
theorem dX7_signOf_29 : decode cX7_signOf 29 = .ok (.iload_n 3, 1) := by decide +kernel
theorem dX7_signOf_30 : decode cX7_signOf 30 = .ok (.invokestatic 183, 3) := by decide +kernel
theorem dX7_signOf_33 : decode cX7_signOf 33 = .ok (.imul, 1) := by decide +kernel
