theorem dX7_init_178 : decode cX7_init 178 = .ok (.invokevirtual 76, 3) := by decide +kernel
theorem dX7_init_181 : decode cX7_init 181 = .ok (.aload_n 0, 1) := by decide +kernel
theorem dX7_init_182 : decode cX7_init 182 = .ok (.getfield 13, 3) := by decide +kernel
theorem dX7_init_185 : decode cX7_init 185 = .ok (.iconst 0, 1) := by decide +kernel
theorem dX7_init_186 : decode cX7_init 186 = .ok (.iconst 1, 1) := by decide +kernel
theorem dX7_init_187 : decode cX7_init 187 = .ok (.iastore, 1) := by decide +kernel
theorem dX7_init_188 : decode cX7_init 188 = .ok (.aload_n 0, 1) := by decide +kernel
theorem dX7_init_189 : decode cX7_init 189 = .ok (.getfield 16, 3) := by decide +kernel
theorem dX7_init_192 : decode cX7_init 192 = .ok (.iconst 0, 1) := by decide +kernel
theorem dX7_init_193 : decode cX7_init 193 = .ok (.bipush 20, 2) := by decide +kernel
theorem dX7_init_195 : decode cX7_init 195 = .ok (.iastore, 1) := by decide +kernel
theorem dX7_init_196 : decode cX7_init 196 = .ok (.aload_n 0, 1) := by decide +kernel
theorem dX7_init_197 : decode cX7_init 197 = .ok (.getfield 19, 3) := by decide +kernel
theorem dX7_init_200 : decode cX7_init 200 = .ok (.iconst 0, 1) := by decide +kernel
theorem dX7_init_201 : decode cX7_init 201 = .ok (.iconst 2, 1) := by decide +kernel
theorem dX7_init_202 : decode cX7_init 202 = .ok (.iastore, 1) := by decide +kernel
theorem dX7_init_203 : decode cX7_init 203 = .ok (.aload_n 0, 1) := by decide +kernel
theorem dX7_init_204 : decode cX7_init 204 = .ok (.getfield 28, 3) := by decide +kernel
theorem dX7_init_207 : decode cX7_init 207 = .ok (.iconst 0, 1) := by decide +kernel
theorem dX7_init_208 : decode cX7_init 208 = .ok (.iconst 2, 1) := by decide +kernel
theorem dX7_init_209 : decode cX7_init 209 = .ok (.iastore, 1) := by decide +kernel
theorem dX7_init_210 : decode cX7_init 210 = .ok (.aload_n 0, 1) := by decide +kernel
theorem dX7_init_211 : decode cX7_init 211 = .ok (.getfield 34, 3) := by decide +kernel
theorem dX7_init_214 : decode cX7_init 214 = .ok (.iconst 0, 1) := by decide +kernel
theorem dX7_init_215 : decode cX7_init 215 = .ok (.iconst 1, 1) := by decide +kernel
theorem dX7_init_216 : decode cX7_init 216 = .ok (.iastore, 1) := by decide +kernel
theorem dX7_init_217 : decode cX7_init 217 = .ok (.aload_n 0, 1) := by decide +kernel
theorem dX7_init_218 : decode cX7_init 218 = .ok (.getfield 37, 3) := by decide +kernel
theorem dX7_init_221 : decode cX7_init 221 = .ok (.iconst 0, 1) := by decide +kernel
theorem dX7_init_222 : decode cX7_init 222 = .ok (.bipush 50, 2) := by decide +kernel
theorem dX7_init_224 : decode cX7_init 224 = .ok (.iastore, 1) := by decide +kernel
theorem dX7_init_225 : decode cX7_init 225 = .ok (.aload_n 0, 1) := by decide +kernel
theorem dX7_init_226 : decode cX7_init 226 = .ok (.getfield 31, 3) := by decide +kernel
theorem dX7_init_229 : decode cX7_init 229 = .ok (.iconst 1, 1) := by decide +kernel
theorem dX7_init_230 : decode cX7_init 230 = .ok (.iconst 3, 1) := by decide +kernel
theorem dX7_init_231 : decode cX7_init 231 = .ok (.iastore, 1) := by decide +kernel
theorem dX7_init_232 : decode cX7_init 232 = .ok (.aload_n 0, 1) := by decide +kernel
theorem dX7_init_233 : decode cX7_init 233 = .ok (.getfield 34, 3) := by decide +kernel
theorem dX7_init_236 : decode cX7_init 236 = .ok (.iconst 1, 1) := by decide +kernel
theorem dX7_init_237 : decode cX7_init 237 = .ok (.iconst 2, 1) := by decide +kernel
theorem dX7_init_238 : decode cX7_init 238 = .ok (.iastore, 1) := by decide +kernel
theorem dX7_init_239 : decode cX7_init 239 = .ok (.aload_n 0, 1) := by decide +kernel
theorem dX7_init_240 : decode cX7_init 240 = .ok (.getfield 37, 3) := by decide +kernel
theorem dX7_init_243 : decode cX7_init 243 = .ok (.iconst 1, 1) := by decide +kernel
theorem dX7_init_244 : decode cX7_init 244 = .ok (.bipush 50, 2) := by decide +kernel
theorem dX7_init_246 : decode cX7_init 246 = .ok (.iastore, 1) := by decide +kernel
theorem dX7_init_247 : decode cX7_init 247 = .ok (.return_, 1) := by decide +kernel
theorem dX7_in_0 : decode cX7_in 0 = .ok (.lload_n 0, 1) := by decide +kernel
theorem dX7_in_1 : decode cX7_in 1 = .ok (.lload_n 2, 1) := by decide +kernel
theorem dX7_in_2 : decode cX7_in 2 = .ok (.lcmp, 1) := by decide +kernel
theorem dX7_in_3 : decode cX7_in 3 = .ok (.ifCond .lt 14, 3) := by decide +kernel
theorem dX7_in_6 : decode cX7_in 6 = .ok (.lload_n 0, 1) := by decide +kernel
theorem dX7_in_7 : decode cX7_in 7 = .ok (.lload 4, 2) := by decide +kernel
theorem dX7_in_9 : decode cX7_in 9 = .ok (.lcmp, 1) := by decide +kernel
theorem dX7_in_10 : decode cX7_in 10 = .ok (.ifCond .gt 7, 3) := by decide +kernel
theorem dX7_in_13 : decode cX7_in 13 = .ok (.iconst 1, 1) := by decide +kernel
theorem dX7_in_14 : decode cX7_in 14 = .ok (.goto 4, 3) := by decide +kernel
theorem dX7_in_17 : decode cX7_in 17 = .ok (.iconst 0, 1) := by decide +kernel
theorem dX7_in_18 : decode cX7_in 18 = .ok (.ireturn, 1) := by decide +kernel
theorem dX7_has_0 : decode cX7_has 0 = .ok (.iload_n 0, 1) := by decide +kernel
theorem dX7_has_1 : decode cX7_has 1 = .ok (.iload_n 1, 1) := by decide +kernel
theorem dX7_has_2 : decode cX7_has 2 = .ok (.ishr, 1) := by decide +kernel
theorem dX7_has_3 : decode cX7_has 3 = .ok (.iconst 1, 1) := by decide +kernel
theorem dX7_has_4 : decode cX7_has 4 = .ok (.iand, 1) := by decide +kernel
theorem dX7_has_5 : decode cX7_has 5 = .ok (.iconst 1, 1) := by decide +kernel
theorem dX7_has_6 : decode cX7_has 6 = .ok (.if_icmp .ne 7, 3) := by decide +kernel
theorem dX7_has_9 : decode cX7_has 9 = .ok (.iconst 1, 1) := by decide +kernel
theorem dX7_has_10 : decode cX7_has 10 = .ok (.goto 4, 3) := by decide +kernel
theorem dX7_has_13 : decode cX7_has 13 = .ok (.iconst 0, 1) := by decide +kernel
theorem dX7_has_14 : decode cX7_has 14 = .ok (.ireturn, 1) := by decide +kernel
theorem dX7_bits_0 : decode cX7_bits 0 = .ok (.iconst 0, 1) := by decide +kernel
theorem dX7_bits_1 : decode cX7_bits 1 = .ok (.istore_n 1, 1) := by decide +kernel
theorem dX7_bits_2 : decode cX7_bits 2 = .ok (.iload_n 0, 1) := by decide +kernel
theorem dX7_bits_3 : decode cX7_bits 3 = .ok (.istore_n 2, 1) := by decide +kernel
theorem dX7_bits_4 : decode cX7_bits 4 = .ok (.iload_n 2, 1) := by decide +kernel
theorem dX7_bits_5 : decode cX7_bits 5 = .ok (.ifCond .eq 15, 3) := by decide +kernel
theorem dX7_bits_8 : decode cX7_bits 8 = .ok (.iinc 1 1, 3) := by decide +kernel
theorem dX7_bits_11 : decode cX7_bits 11 = .ok (.iload_n 2, 1) := by decide +kernel
theorem dX7_bits_12 : decode cX7_bits 12 = .ok (.iload_n 2, 1) := by decide +kernel
theorem dX7_bits_13 : decode cX7_bits 13 = .ok (.iconst 1, 1) := by decide +kernel
theorem dX7_bits_14 : decode cX7_bits 14 = .ok (.isub, 1) := by decide +kernel
theorem dX7_bits_15 : decode cX7_bits 15 = .ok (.iand, 1) := by decide +kernel
theorem dX7_bits_16 : decode cX7_bits 16 = .ok (.istore_n 2, 1) := by decide +kernel
theorem dX7_bits_17 : decode cX7_bits 17 = .ok (.goto (-13), 3) := by decide +kernel
theorem dX7_bits_20 : decode cX7_bits 20 = .ok (.iload_n 1, 1) := by decide +kernel
theorem dX7_bits_21 : decode cX7_bits 21 = .ok (.ireturn, 1) := by decide +kernel
theorem dX7_noCanyon_0 : decode cX7_noCanyon 0 = .ok (.aload_n 0, 1) := by decide +kernel
theorem dX7_noCanyon_1 : decode cX7_noCanyon 1 = .ok (.getfield 13, 3) := by decide +kernel
theorem dX7_noCanyon_4 : decode cX7_noCanyon 4 = .ok (.iload_n 1, 1) := by decide +kernel
theorem dX7_noCanyon_5 : decode cX7_noCanyon 5 = .ok (.iconst 0, 1) := by decide +kernel
theorem dX7_noCanyon_6 : decode cX7_noCanyon 6 = .ok (.iastore, 1) := by decide +kernel
theorem dX7_noCanyon_7 : decode cX7_noCanyon 7 = .ok (.aload_n 0, 1) := by decide +kernel
theorem dX7_noCanyon_8 : decode cX7_noCanyon 8 = .ok (.getfield 25, 3) := by decide +kernel
theorem dX7_noCanyon_11 : decode cX7_noCanyon 11 = .ok (.iload_n 1, 1) := by decide +kernel
theorem dX7_noCanyon_12 : decode cX7_noCanyon 12 = .ok (.iconst 1, 1) := by decide +kernel
theorem dX7_noCanyon_13 : decode cX7_noCanyon 13 = .ok (.iastore, 1) := by decide +kernel
theorem dX7_noCanyon_14 : decode cX7_noCanyon 14 = .ok (.aload_n 0, 1) := by decide +kernel
theorem dX7_noCanyon_15 : decode cX7_noCanyon 15 = .ok (.getfield 28, 3) := by decide +kernel
theorem dX7_noCanyon_18 : decode cX7_noCanyon 18 = .ok (.iload_n 1, 1) := by decide +kernel
theorem dX7_noCanyon_19 : decode cX7_noCanyon 19 = .ok (.iconst 0, 1) := by decide +kernel
theorem dX7_noCanyon_20 : decode cX7_noCanyon 20 = .ok (.iastore, 1) := by decide +kernel
theorem dX7_noCanyon_21 : decode cX7_noCanyon 21 = .ok (.aload_n 0, 1) := by decide +kernel
theorem dX7_noCanyon_22 : decode cX7_noCanyon 22 = .ok (.getfield 40, 3) := by decide +kernel
theorem dX7_noCanyon_25 : decode cX7_noCanyon 25 = .ok (.iload_n 1, 1) := by decide +kernel
theorem dX7_noCanyon_26 : decode cX7_noCanyon 26 = .ok (.iconst 0, 1) := by decide +kernel
theorem dX7_noCanyon_27 : decode cX7_noCanyon 27 = .ok (.iastore, 1) := by decide +kernel
theorem dX7_noCanyon_28 : decode cX7_noCanyon 28 = .ok (.aload_n 0, 1) := by decide +kernel
theorem dX7_noCanyon_29 : decode cX7_noCanyon 29 = .ok (.getfield 43, 3) := by decide +kernel
theorem dX7_noCanyon_32 : decode cX7_noCanyon 32 = .ok (.iload_n 1, 1) := by decide +kernel
theorem dX7_noCanyon_33 : decode cX7_noCanyon 33 = .ok (.bipush 10, 2) := by decide +kernel
theorem dX7_noCanyon_35 : decode cX7_noCanyon 35 = .ok (.iastore, 1) := by decide +kernel
theorem dX7_noCanyon_36 : decode cX7_noCanyon 36 = .ok (.aload_n 0, 1) := by decide +kernel
theorem dX7_noCanyon_37 : decode cX7_noCanyon 37 = .ok (.getfield 46, 3) := by decide +kernel
theorem dX7_noCanyon_40 : decode cX7_noCanyon 40 = .ok (.iload_n 1, 1) := by decide +kernel
theorem dX7_noCanyon_41 : decode cX7_noCanyon 41 = .ok (.iconst 0, 1) := by decide +kernel
theorem dX7_noCanyon_42 : decode cX7_noCanyon 42 = .ok (.iastore, 1) := by decide +kernel
theorem dX7_noCanyon_43 : decode cX7_noCanyon 43 = .ok (.return_, 1) := by decide +kernel
set_option maxRecDepth 20000 in
theorem ggX7_write_X7_in : GoodIn wsX7_write wsX7_in := goodIn_r _ [8] (by decide +kernel) (by decide +kernel)
set_option maxRecDepth 20000 in
theorem gX7_write_X7_in : GoodIn wsX7_write (va_wsS RX7 82 yX7_in wsX7_in) := goodIn_app (goodIn_of _ (by decide +kernel)) ggX7_write_X7_in
theorem dX7_write_0 : decode cX7_write 0 = .ok (.iload_n 1, 1) := by decide +kernel
theorem dX7_write_1 : decode cX7_write 1 = .ok (.i2l, 1) := by decide +kernel
theorem dX7_write_2 : decode cX7_write 2 = .ok (.lconst 1, 1) := by decide +kernel
theorem dX7_write_3 : decode cX7_write 3 = .ok (.ldc2_w 80, 3) := by decide +kernel
theorem dX7_write_6 : decode cX7_write 6 = .ok (.invokestatic 82, 3) := by decide +kernel
theorem dX7_write_9 : decode cX7_write 9 = .ok (.ifCond .ne 5, 3) := by decide +kernel
theorem dX7_write_12 : decode cX7_write 12 = .ok (.iconst (-1), 1) := by decide +kernel
theorem dX7_write_13 : decode cX7_write 13 = .ok (.ireturn, 1) := by decide +kernel
theorem dX7_write_14 : decode cX7_write 14 = .ok (.aload_n 0, 1) := by decide +kernel
theorem dX7_write_15 : decode cX7_write 15 = .ok (.getfield 86, 3) := by decide +kernel
theorem dX7_write_18 : decode cX7_write 18 = .ok (.iload_n 1, 1) := by decide +kernel
theorem dX7_write_19 : decode cX7_write 19 = .ok (.iadd, 1) := by decide +kernel
theorem dX7_write_20 : decode cX7_write 20 = .ok (.sipush 300, 3) := by decide +kernel
theorem dX7_write_23 : decode cX7_write 23 = .ok (.if_icmp .le 6, 3) := by decide +kernel
theorem dX7_write_26 : decode cX7_write 26 = .ok (.bipush (-3), 2) := by decide +kernel
theorem dX7_write_28 : decode cX7_write 28 = .ok (.ireturn, 1) := by decide +kernel
theorem dX7_write_29 : decode cX7_write 29 = .ok (.iload_n 1, 1) := by decide +kernel
theorem dX7_write_30 : decode cX7_write 30 = .ok (.iconst 1, 1) := by decide +kernel
theorem dX7_write_31 : decode cX7_write 31 = .ok (.isub, 1) := by decide +kernel
theorem dX7_write_32 : decode cX7_write 32 = .ok (.istore 4, 2) := by decide +kernel
theorem dX7_write_34 : decode cX7_write 34 = .ok (.iload 4, 2) := by decide +kernel
theorem dX7_write_36 : decode cX7_write 36 = .ok (.ifCond .lt 40, 3) := by decide +kernel
theorem dX7_write_39 : decode cX7_write 39 = .ok (.aload_n 0, 1) := by decide +kernel
theorem dX7_write_40 : decode cX7_write 40 = .ok (.getfield 7, 3) := by decide +kernel
theorem dX7_write_43 : decode cX7_write 43 = .ok (.aload_n 0, 1) := by decide +kernel
theorem dX7_write_44 : decode cX7_write 44 = .ok (.getfield 86, 3) := by decide +kernel
theorem dX7_write_47 : decode cX7_write 47 = .ok (.lload_n 2, 1) := by decide +kernel
theorem dX7_write_48 : decode cX7_write 48 = .ok (.bipush 8, 2) := by decide +kernel
theorem dX7_write_50 : decode cX7_write 50 = .ok (.iload 4, 2) := by decide +kernel
theorem dX7_write_52 : decode cX7_write 52 = .ok (.imul, 1) := by decide +kernel
theorem dX7_write_53 : decode cX7_write 53 = .ok (.lshr, 1) := by decide +kernel
theorem dX7_write_54 : decode cX7_write 54 = .ok (.ldc2_w 90, 3) := by decide +kernel
theorem dX7_write_57 : decode cX7_write 57 = .ok (.land, 1) := by decide +kernel
theorem dX7_write_58 : decode cX7_write 58 = .ok (.l2i, 1) := by decide +kernel
theorem dX7_write_59 : decode cX7_write 59 = .ok (.iastore, 1) := by decide +kernel
theorem dX7_write_60 : decode cX7_write 60 = .ok (.aload_n 0, 1) := by decide +kernel
theorem dX7_write_61 : decode cX7_write 61 = .ok (.dup, 1) := by decide +kernel
theorem dX7_write_62 : decode cX7_write 62 = .ok (.getfield 86, 3) := by decide +kernel
theorem dX7_write_65 : decode cX7_write 65 = .ok (.iconst 1, 1) := by decide +kernel
theorem dX7_write_66 : decode cX7_write 66 = .ok (.iadd, 1) := by decide +kernel
theorem dX7_write_67 : decode cX7_write 67 = .ok (.putfield 86, 3) := by decide +kernel
theorem dX7_write_70 : decode cX7_write 70 = .ok (.iinc 4 (-1), 3) := by decide +kernel
theorem dX7_write_73 : decode cX7_write 73 = .ok (.goto (-39), 3) := by decide +kernel
theorem dX7_write_76 : decode cX7_write 76 = .ok (.aload_n 0, 1) := by decide +kernel
theorem dX7_write_77 : decode cX7_write 77 = .ok (.getfield 86, 3) := by decide +kernel
theorem dX7_write_80 : decode cX7_write 80 = .ok (.ireturn, 1) := by decide +kernel
theorem dX7_wipe_0 : decode cX7_wipe 0 = .ok (.aload_n 0, 1) := by decide +kernel
theorem dX7_wipe_1 : decode cX7_wipe 1 = .ok (.getfield 86, 3) := by decide +kernel
theorem dX7_wipe_4 : decode cX7_wipe 4 = .ok (.istore_n 1, 1) := by decide +kernel
theorem dX7_wipe_5 : decode cX7_wipe 5 = .ok (.aload_n 0, 1) := by decide +kernel
theorem dX7_wipe_6 : decode cX7_wipe 6 = .ok (.iconst 0, 1) := by decide +kernel
theorem dX7_wipe_7 : decode cX7_wipe 7 = .ok (.putfield 86, 3) := by decide +kernel
theorem dX7_wipe_10 : decode cX7_wipe 10 = .ok (.iload_n 1, 1) := by decide +kernel
theorem dX7_wipe_11 : decode cX7_wipe 11 = .ok (.ireturn, 1) := by decide +kernel
theorem dX7_byteAt_0 : decode cX7_byteAt 0 = .ok (.iload_n 1, 1) := by decide +kernel
theorem dX7_byteAt_1 : decode cX7_byteAt 1 = .ok (.aload_n 0, 1) := by decide +kernel
theorem dX7_byteAt_2 : decode cX7_byteAt 2 = .ok (.getfield 86, 3) := by decide +kernel
theorem dX7_byteAt_5 : decode cX7_byteAt 5 = .ok (.if_icmp .ge 12, 3) := by decide +kernel
theorem dX7_byteAt_8 : decode cX7_byteAt 8 = .ok (.aload_n 0, 1) := by decide +kernel
theorem dX7_byteAt_9 : decode cX7_byteAt 9 = .ok (.getfield 7, 3) := by decide +kernel
theorem dX7_byteAt_12 : decode cX7_byteAt 12 = .ok (.iload_n 1, 1) := by decide +kernel
theorem dX7_byteAt_13 : decode cX7_byteAt 13 = .ok (.iaload, 1) := by decide +kernel
theorem dX7_byteAt_14 : decode cX7_byteAt 14 = .ok (.goto 4, 3) := by decide +kernel
theorem dX7_byteAt_17 : decode cX7_byteAt 17 = .ok (.iconst 0, 1) := by decide +kernel
theorem dX7_byteAt_18 : decode cX7_byteAt 18 = .ok (.ireturn, 1) := by decide +kernel
set_option maxRecDepth 20000 in
theorem ggX7_figures_X7_byteAt : GoodIn wsX7_figures wsX7_byteAt := goodIn_r _ [10, 11, 12, 16, 17, 18, 19, 20, 21, 22, 23, 24, 25, 26, 27, 28, 29, 30, 31, 32, 33, 34, 35, 36, 37, 38, 39, 40, 41, 42, 43] (by decide +kernel) (by decide +kernel)
set_option maxRecDepth 20000 in
theorem gX7_figures_X7_byteAt : GoodIn wsX7_figures (wsV RX7 95 RX7 yX7_byteAt wsX7_byteAt) := goodIn_app (goodIn_of _ (by decide +kernel)) ggX7_figures_X7_byteAt
set_option maxRecDepth 20000 in
theorem ggX7_figures_X7_in : GoodIn wsX7_figures wsX7_in := goodIn_r _ [15] (by decide +kernel) (by decide +kernel)
set_option maxRecDepth 20000 in
theorem gX7_figures_X7_in : GoodIn wsX7_figures (va_wsS RX7 82 yX7_in wsX7_in) := goodIn_app (goodIn_of _ (by decide +kernel)) ggX7_figures_X7_in
theorem dX7_figures_0 : decode cX7_figures 0 = .ok (.iconst 0, 1) := by decide +kernel
theorem dX7_figures_1 : decode cX7_figures 1 = .ok (.istore_n 2, 1) := by decide +kernel
theorem dX7_figures_2 : decode cX7_figures 2 = .ok (.iload_n 2, 1) := by decide +kernel
theorem dX7_figures_3 : decode cX7_figures 3 = .ok (.iload_n 1, 1) := by decide +kernel
theorem dX7_figures_4 : decode cX7_figures 4 = .ok (.if_icmp .ge 132, 3) := by decide +kernel
theorem dX7_figures_7 : decode cX7_figures 7 = .ok (.iconst 0, 1) := by decide +kernel
theorem dX7_figures_8 : decode cX7_figures 8 = .ok (.istore_n 3, 1) := by decide +kernel
theorem dX7_figures_9 : decode cX7_figures 9 = .ok (.iconst 0, 1) := by decide +kernel
theorem dX7_figures_10 : decode cX7_figures 10 = .ok (.istore 4, 2) := by decide +kernel
theorem dX7_figures_12 : decode cX7_figures 12 = .ok (.aload_n 0, 1) := by decide +kernel
theorem dX7_figures_13 : decode cX7_figures 13 = .ok (.aload_n 0, 1) := by decide +kernel
theorem dX7_figures_14 : decode cX7_figures 14 = .ok (.getfield 92, 3) := by decide +kernel
theorem dX7_figures_17 : decode cX7_figures 17 = .ok (.invokevirtual 95, 3) := by decide +kernel
theorem dX7_figures_20 : decode cX7_figures 20 = .ok (.i2l, 1) := by decide +kernel
theorem dX7_figures_21 : decode cX7_figures 21 = .ok (.ldc2_w 99, 3) := by decide +kernel
theorem dX7_figures_24 : decode cX7_figures 24 = .ok (.ldc2_w 101, 3) := by decide +kernel
theorem dX7_figures_27 : decode cX7_figures 27 = .ok (.invokestatic 82, 3) := by decide +kernel
theorem dX7_figures_30 : decode cX7_figures 30 = .ok (.ifCond .eq 43, 3) := by decide +kernel
theorem dX7_figures_33 : decode cX7_figures 33 = .ok (.iload_n 3, 1) := by decide +kernel
theorem dX7_figures_34 : decode cX7_figures 34 = .ok (.iconst 3, 1) := by decide +kernel
theorem dX7_figures_35 : decode cX7_figures 35 = .ok (.if_icmp .ge 38, 3) := by decide +kernel
theorem dX7_figures_38 : decode cX7_figures 38 = .ok (.bipush 10, 2) := by decide +kernel
theorem dX7_figures_40 : decode cX7_figures 40 = .ok (.iload 4, 2) := by decide +kernel
theorem dX7_figures_42 : decode cX7_figures 42 = .ok (.imul, 1) := by decide +kernel
theorem dX7_figures_43 : decode cX7_figures 43 = .ok (.aload_n 0, 1) := by decide +kernel
theorem dX7_figures_44 : decode cX7_figures 44 = .ok (.aload_n 0, 1) := by decide +kernel
theorem dX7_figures_45 : decode cX7_figures 45 = .ok (.getfield 92, 3) := by decide +kernel
theorem dX7_figures_48 : decode cX7_figures 48 = .ok (.invokevirtual 95, 3) := by decide +kernel
theorem dX7_figures_51 : decode cX7_figures 51 = .ok (.iadd, 1) := by decide +kernel
theorem dX7_figures_52 : decode cX7_figures 52 = .ok (.bipush 48, 2) := by decide +kernel
theorem dX7_figures_54 : decode cX7_figures 54 = .ok (.isub, 1) := by decide +kernel
theorem dX7_figures_55 : decode cX7_figures 55 = .ok (.istore 4, 2) := by decide +kernel
theorem dX7_figures_57 : decode cX7_figures 57 = .ok (.iinc 3 1, 3) := by decide +kernel
theorem dX7_figures_60 : decode cX7_figures 60 = .ok (.aload_n 0, 1) := by decide +kernel
theorem dX7_figures_61 : decode cX7_figures 61 = .ok (.dup, 1) := by decide +kernel
theorem dX7_figures_62 : decode cX7_figures 62 = .ok (.getfield 92, 3) := by decide +kernel
theorem dX7_figures_65 : decode cX7_figures 65 = .ok (.iconst 1, 1) := by decide +kernel
theorem dX7_figures_66 : decode cX7_figures 66 = .ok (.iadd, 1) := by decide +kernel
theorem dX7_figures_67 : decode cX7_figures 67 = .ok (.putfield 92, 3) := by decide +kernel
theorem dX7_figures_70 : decode cX7_figures 70 = .ok (.goto (-58), 3) := by decide +kernel
theorem dX7_figures_73 : decode cX7_figures 73 = .ok (.iload_n 3, 1) := by decide +kernel
theorem dX7_figures_74 : decode cX7_figures 74 = .ok (.i2l, 1) := by decide +kernel
theorem dX7_figures_75 : decode cX7_figures 75 = .ok (.lconst 1, 1) := by decide +kernel
theorem dX7_figures_76 : decode cX7_figures 76 = .ok (.ldc2_w 103, 3) := by decide +kernel
theorem dX7_figures_79 : decode cX7_figures 79 = .ok (.invokestatic 82, 3) := by decide +kernel
theorem dX7_figures_82 : decode cX7_figures 82 = .ok (.ifCond .eq 28, 3) := by decide +kernel
theorem dX7_figures_85 : decode cX7_figures 85 = .ok (.aload_n 0, 1) := by decide +kernel
theorem dX7_figures_86 : decode cX7_figures 86 = .ok (.aload_n 0, 1) := by decide +kernel
theorem dX7_figures_87 : decode cX7_figures 87 = .ok (.getfield 92, 3) := by decide +kernel
theorem dX7_figures_90 : decode cX7_figures 90 = .ok (.invokevirtual 95, 3) := by decide +kernel
theorem dX7_figures_93 : decode cX7_figures 93 = .ok (.iload_n 2, 1) := by decide +kernel
theorem dX7_figures_94 : decode cX7_figures 94 = .ok (.iload_n 1, 1) := by decide +kernel
theorem dX7_figures_95 : decode cX7_figures 95 = .ok (.iconst 1, 1) := by decide +kernel
theorem dX7_figures_96 : decode cX7_figures 96 = .ok (.isub, 1) := by decide +kernel
theorem dX7_figures_97 : decode cX7_figures 97 = .ok (.if_icmp .ge 8, 3) := by decide +kernel
theorem dX7_figures_100 : decode cX7_figures 100 = .ok (.bipush 44, 2) := by decide +kernel
theorem dX7_figures_102 : decode cX7_figures 102 = .ok (.goto 5, 3) := by decide +kernel
theorem dX7_figures_105 : decode cX7_figures 105 = .ok (.bipush 59, 2) := by decide +kernel
theorem dX7_figures_107 : decode cX7_figures 107 = .ok (.if_icmp .eq 5, 3) := by decide +kernel
theorem dX7_figures_110 : decode cX7_figures 110 = .ok (.iconst 0, 1) := by decide +kernel
theorem dX7_figures_111 : decode cX7_figures 111 = .ok (.ireturn, 1) := by decide +kernel
theorem dX7_figures_112 : decode cX7_figures 112 = .ok (.aload_n 0, 1) := by decide +kernel
theorem dX7_figures_113 : decode cX7_figures 113 = .ok (.getfield 64, 3) := by decide +kernel
theorem dX7_figures_116 : decode cX7_figures 116 = .ok (.iload_n 2, 1) := by decide +kernel
theorem dX7_figures_117 : decode cX7_figures 117 = .ok (.iload 4, 2) := by decide +kernel
theorem dX7_figures_119 : decode cX7_figures 119 = .ok (.iastore, 1) := by decide +kernel
theorem dX7_figures_120 : decode cX7_figures 120 = .ok (.aload_n 0, 1) := by decide +kernel
theorem dX7_figures_121 : decode cX7_figures 121 = .ok (.dup, 1) := by decide +kernel
theorem dX7_figures_122 : decode cX7_figures 122 = .ok (.getfield 92, 3) := by decide +kernel
theorem dX7_figures_125 : decode cX7_figures 125 = .ok (.iconst 1, 1) := by decide +kernel
theorem dX7_figures_126 : decode cX7_figures 126 = .ok (.iadd, 1) := by decide +kernel
theorem dX7_figures_127 : decode cX7_figures 127 = .ok (.putfield 92, 3) := by decide +kernel
theorem dX7_figures_130 : decode cX7_figures 130 = .ok (.iinc 2 1, 3) := by decide +kernel
theorem dX7_figures_133 : decode cX7_figures 133 = .ok (.goto (-131), 3) := by decide +kernel
theorem dX7_figures_136 : decode cX7_figures 136 = .ok (.iconst 1, 1) := by decide +kernel
theorem dX7_figures_137 : decode cX7_figures 137 = .ok (.ireturn, 1) := by decide +kernel
set_option maxRecDepth 20000 in
theorem ggX7_isYard_X7_in : GoodIn wsX7_isYard wsX7_in := goodIn_r _ [5] (by decide +kernel) (by decide +kernel)
set_option maxRecDepth 20000 in
theorem gX7_isYard_X7_in : GoodIn wsX7_isYard (va_wsS RX7 82 yX7_in wsX7_in) := goodIn_app (goodIn_of _ (by decide +kernel)) ggX7_isYard_X7_in
theorem dX7_isYard_0 : decode cX7_isYard 0 = .ok (.iload_n 0, 1) := by decide +kernel
theorem dX7_isYard_1 : decode cX7_isYard 1 = .ok (.i2l, 1) := by decide +kernel
theorem dX7_isYard_2 : decode cX7_isYard 2 = .ok (.lconst 0, 1) := by decide +kernel
theorem dX7_isYard_3 : decode cX7_isYard 3 = .ok (.ldc2_w 105, 3) := by decide +kernel
theorem dX7_isYard_6 : decode cX7_isYard 6 = .ok (.invokestatic 82, 3) := by decide +kernel
theorem dX7_isYard_9 : decode cX7_isYard 9 = .ok (.ireturn, 1) := by decide +kernel
set_option maxRecDepth 20000 in
theorem ggX7_isWord_X7_in : GoodIn wsX7_isWord wsX7_in := goodIn_r _ [7] (by decide +kernel) (by decide +kernel)
set_option maxRecDepth 20000 in
theorem gX7_isWord_X7_in : GoodIn wsX7_isWord (va_wsS RX7 82 yX7_in wsX7_in) := goodIn_app (goodIn_of _ (by decide +kernel)) ggX7_isWord_X7_in
theorem dX7_isWord_0 : decode cX7_isWord 0 = .ok (.iload_n 0, 1) := by decide +kernel
theorem dX7_isWord_1 : decode cX7_isWord 1 = .ok (.i2l, 1) := by decide +kernel
theorem dX7_isWord_2 : decode cX7_isWord 2 = .ok (.lconst 0, 1) := by decide +kernel
theorem dX7_isWord_3 : decode cX7_isWord 3 = .ok (.ldc2_w 107, 3) := by decide +kernel
theorem dX7_isWord_6 : decode cX7_isWord 6 = .ok (.invokestatic 82, 3) := by decide +kernel
theorem dX7_isWord_9 : decode cX7_isWord 9 = .ok (.ifCond .eq 31, 3) := by decide +kernel
theorem dX7_isWord_12 : decode cX7_isWord 12 = .ok (.iload_n 1, 1) := by decide +kernel
theorem dX7_isWord_13 : decode cX7_isWord 13 = .ok (.i2l, 1) := by decide +kernel
theorem dX7_isWord_14 : decode cX7_isWord 14 = .ok (.lconst 1, 1) := by decide +kernel
theorem dX7_isWord_15 : decode cX7_isWord 15 = .ok (.ldc2_w 109, 3) := by decide +kernel
theorem dX7_isWord_18 : decode cX7_isWord 18 = .ok (.invokestatic 82, 3) := by decide +kernel
theorem dX7_isWord_21 : decode cX7_isWord 21 = .ok (.ifCond .eq 19, 3) := by decide +kernel
theorem dX7_isWord_24 : decode cX7_isWord 24 = .ok (.iload_n 2, 1) := by decide +kernel
theorem dX7_isWord_25 : decode cX7_isWord 25 = .ok (.i2l, 1) := by decide +kernel
theorem dX7_isWord_26 : decode cX7_isWord 26 = .ok (.lconst 1, 1) := by decide +kernel
theorem dX7_isWord_27 : decode cX7_isWord 27 = .ok (.ldc2_w 111, 3) := by decide +kernel
theorem dX7_isWord_30 : decode cX7_isWord 30 = .ok (.invokestatic 82, 3) := by decide +kernel
theorem dX7_isWord_33 : decode cX7_isWord 33 = .ok (.ifCond .eq 7, 3) := by decide +kernel
theorem dX7_isWord_36 : decode cX7_isWord 36 = .ok (.iconst 1, 1) := by decide +kernel
theorem dX7_isWord_37 : decode cX7_isWord 37 = .ok (.goto 4, 3) := by decide +kernel
theorem dX7_isWord_40 : decode cX7_isWord 40 = .ok (.iconst 0, 1) := by decide +kernel
theorem dX7_isWord_41 : decode cX7_isWord 41 = .ok (.ireturn, 1) := by decide +kernel
theorem dX7_addWord_0 : decode cX7_addWord 0 = .ok (.aload_n 0, 1) := by decide +kernel
theorem dX7_addWord_1 : decode cX7_addWord 1 = .ok (.getfield 31, 3) := by decide +kernel
theorem dX7_addWord_4 : decode cX7_addWord 4 = .ok (.bipush 8, 2) := by decide +kernel
theorem dX7_addWord_6 : decode cX7_addWord 6 = .ok (.iload_n 1, 1) := by decide +kernel
theorem dX7_addWord_7 : decode cX7_addWord 7 = .ok (.imul, 1) := by decide +kernel
theorem dX7_addWord_8 : decode cX7_addWord 8 = .ok (.aload_n 0, 1) := by decide +kernel
theorem dX7_addWord_9 : decode cX7_addWord 9 = .ok (.getfield 28, 3) := by decide +kernel
theorem dX7_addWord_12 : decode cX7_addWord 12 = .ok (.iload_n 1, 1) := by decide +kernel
theorem dX7_addWord_13 : decode cX7_addWord 13 = .ok (.iaload, 1) := by decide +kernel
theorem dX7_addWord_14 : decode cX7_addWord 14 = .ok (.iadd, 1) := by decide +kernel
theorem dX7_addWord_15 : decode cX7_addWord 15 = .ok (.iload_n 2, 1) := by decide +kernel
theorem dX7_addWord_16 : decode cX7_addWord 16 = .ok (.iastore, 1) := by decide +kernel
theorem dX7_addWord_17 : decode cX7_addWord 17 = .ok (.aload_n 0, 1) := by decide +kernel
theorem dX7_addWord_18 : decode cX7_addWord 18 = .ok (.getfield 34, 3) := by decide +kernel
theorem dX7_addWord_21 : decode cX7_addWord 21 = .ok (.bipush 8, 2) := by decide +kernel
theorem dX7_addWord_23 : decode cX7_addWord 23 = .ok (.iload_n 1, 1) := by decide +kernel
theorem dX7_addWord_24 : decode cX7_addWord 24 = .ok (.imul, 1) := by decide +kernel
theorem dX7_addWord_25 : decode cX7_addWord 25 = .ok (.aload_n 0, 1) := by decide +kernel
theorem dX7_addWord_26 : decode cX7_addWord 26 = .ok (.getfield 28, 3) := by decide +kernel
theorem dX7_addWord_29 : decode cX7_addWord 29 = .ok (.iload_n 1, 1) := by decide +kernel
theorem dX7_addWord_30 : decode cX7_addWord 30 = .ok (.iaload, 1) := by decide +kernel
theorem dX7_addWord_31 : decode cX7_addWord 31 = .ok (.iadd, 1) := by decide +kernel
theorem dX7_addWord_32 : decode cX7_addWord 32 = .ok (.iload_n 3, 1) := by decide +kernel
theorem dX7_addWord_33 : decode cX7_addWord 33 = .ok (.iastore, 1) := by decide +kernel
theorem dX7_addWord_34 : decode cX7_addWord 34 = .ok (.aload_n 0, 1) := by decide +kernel
theorem dX7_addWord_35 : decode cX7_addWord 35 = .ok (.getfield 37, 3) := by decide +kernel
theorem dX7_addWord_38 : decode cX7_addWord 38 = .ok (.bipush 8, 2) := by decide +kernel
theorem dX7_addWord_40 : decode cX7_addWord 40 = .ok (.iload_n 1, 1) := by decide +kernel
theorem dX7_addWord_41 : decode cX7_addWord 41 = .ok (.imul, 1) := by decide +kernel
theorem dX7_addWord_42 : decode cX7_addWord 42 = .ok (.aload_n 0, 1) := by decide +kernel
theorem dX7_addWord_43 : decode cX7_addWord 43 = .ok (.getfield 28, 3) := by decide +kernel
theorem dX7_addWord_46 : decode cX7_addWord 46 = .ok (.iload_n 1, 1) := by decide +kernel
theorem dX7_addWord_47 : decode cX7_addWord 47 = .ok (.iaload, 1) := by decide +kernel
theorem dX7_addWord_48 : decode cX7_addWord 48 = .ok (.iadd, 1) := by decide +kernel
theorem dX7_addWord_49 : decode cX7_addWord 49 = .ok (.iload 4, 2) := by decide +kernel
theorem dX7_addWord_51 : decode cX7_addWord 51 = .ok (.iastore, 1) := by decide +kernel
theorem dX7_addWord_52 : decode cX7_addWord 52 = .ok (.aload_n 0, 1) := by decide +kernel
theorem dX7_addWord_53 : decode cX7_addWord 53 = .ok (.getfield 28, 3) := by decide +kernel
theorem dX7_addWord_56 : decode cX7_addWord 56 = .ok (.iload_n 1, 1) := by decide +kernel
theorem dX7_addWord_57 : decode cX7_addWord 57 = .ok (.dup2, 1) := by decide +kernel
theorem dX7_addWord_58 : decode cX7_addWord 58 = .ok (.iaload, 1) := by decide +kernel
theorem dX7_addWord_59 : decode cX7_addWord 59 = .ok (.iconst 1, 1) := by decide +kernel
theorem dX7_addWord_60 : decode cX7_addWord 60 = .ok (.iadd, 1) := by decide +kernel
theorem dX7_addWord_61 : decode cX7_addWord 61 = .ok (.iastore, 1) := by decide +kernel
theorem dX7_addWord_62 : decode cX7_addWord 62 = .ok (.return_, 1) := by decide +kernel
set_option maxRecDepth 20000 in
theorem ggX7_item_X7_byteAt : GoodIn wsX7_item wsX7_byteAt := goodIn_r _ [16, 17, 18, 46, 47, 48, 49, 50, 51, 52, 53, 54, 55, 56, 57, 58, 59, 60, 61, 62, 63, 64, 65, 66, 67, 68, 69, 70, 71, 72, 73] (by decide +kernel) (by decide +kernel)
set_option maxRecDepth 20000 in
theorem gX7_item_X7_byteAt : GoodIn wsX7_item (wsV RX7 95 RX7 yX7_byteAt wsX7_byteAt) := goodIn_app (goodIn_of _ (by decide +kernel)) ggX7_item_X7_byteAt
set_option maxRecDepth 20000 in
theorem ggX7_item_X7_figures : GoodIn wsX7_item wsX7_figures := goodIn_r _ [22, 1, 23, 24, 25, 3, 12, 13, 14, 15, 16, 17, 18, 26, 27, 28, 46, 47, 48, 49, 50, 51, 52, 53, 54, 55, 56, 57, 58, 59, 60, 61, 62, 63, 64, 65, 66, 67, 68, 69, 70, 71, 72, 73] (by decide +kernel) (by decide +kernel)
set_option maxRecDepth 20000 in
theorem gX7_item_X7_figures : GoodIn wsX7_item (wsV RX7 113 RX7 yX7_figures wsX7_figures) := goodIn_app (goodIn_of _ (by decide +kernel)) ggX7_item_X7_figures
set_option maxRecDepth 20000 in
theorem ggX7_item_X7_isYard : GoodIn wsX7_item wsX7_isYard := goodIn_r _ [31, 32, 26, 27, 15, 28] (by decide +kernel) (by decide +kernel)
set_option maxRecDepth 20000 in
theorem gX7_item_X7_isYard : GoodIn wsX7_item (va_wsS RX7 117 yX7_isYard wsX7_isYard) := goodIn_app (goodIn_of _ (by decide +kernel)) ggX7_item_X7_isYard
set_option maxRecDepth 20000 in
theorem ggX7_item_X7_isWord : GoodIn wsX7_item wsX7_isWord := goodIn_r _ [35, 36, 37, 38, 26, 27, 15, 28] (by decide +kernel) (by decide +kernel)
set_option maxRecDepth 20000 in
theorem gX7_item_X7_isWord : GoodIn wsX7_item (va_wsS RX7 120 yX7_isWord wsX7_isWord) := goodIn_app (goodIn_of _ (by decide +kernel)) ggX7_item_X7_isWord
set_option maxRecDepth 20000 in
theorem ggX7_item_X7_addWord : GoodIn wsX7_item wsX7_addWord := goodIn_r _ [42, 43, 7, 44, 45, 46, 47, 48, 49, 50, 51, 52, 53, 54, 55, 56, 57, 58, 59, 60, 61, 62, 63, 64, 65, 66, 67, 68, 69, 70, 71, 72, 73] (by decide +kernel) (by decide +kernel)
set_option maxRecDepth 20000 in
theorem gX7_item_X7_addWord : GoodIn wsX7_item (wsV RX7 124 RX7 yX7_addWord wsX7_addWord) := goodIn_app (goodIn_of _ (by decide +kernel)) ggX7_item_X7_addWord
set_option maxRecDepth 20000 in
theorem ggX7_item_X7_in : GoodIn wsX7_item wsX7_in := goodIn_r _ [28] (by decide +kernel) (by decide +kernel)
set_option maxRecDepth 20000 in
theorem gX7_item_X7_in : GoodIn wsX7_item (va_wsS RX7 82 yX7_in wsX7_in) := goodIn_app (goodIn_of _ (by decide +kernel)) ggX7_item_X7_in
theorem dX7_item_0 : decode cX7_item 0 = .ok (.aload_n 0, 1) := by decide +kernel
theorem dX7_item_1 : decode cX7_item 1 = .ok (.aload_n 0, 1) := by decide +kernel
theorem dX7_item_2 : decode cX7_item 2 = .ok (.getfield 92, 3) := by decide +kernel
theorem dX7_item_5 : decode cX7_item 5 = .ok (.invokevirtual 95, 3) := by decide +kernel
theorem dX7_item_8 : decode cX7_item 8 = .ok (.istore_n 1, 1) := by decide +kernel
theorem dX7_item_9 : decode cX7_item 9 = .ok (.aload_n 0, 1) := by decide +kernel
theorem dX7_item_10 : decode cX7_item 10 = .ok (.dup, 1) := by decide +kernel
theorem dX7_item_11 : decode cX7_item 11 = .ok (.getfield 92, 3) := by decide +kernel
theorem dX7_item_14 : decode cX7_item 14 = .ok (.iconst 1, 1) := by decide +kernel
theorem dX7_item_15 : decode cX7_item 15 = .ok (.iadd, 1) := by decide +kernel
theorem dX7_item_16 : decode cX7_item 16 = .ok (.putfield 92, 3) := by decide +kernel
theorem dX7_item_19 : decode cX7_item 19 = .ok (.iload_n 1, 1) := by decide +kernel
theorem dX7_item_20 : decode cX7_item 20 = .ok (.lookupswitch 357 #[(97, 316), (102, 52), (104, 280), (115, 244), (119, 174)], 52) := by decide +kernel
theorem dX7_item_72 : decode cX7_item 72 = .ok (.aload_n 0, 1) := by decide +kernel
theorem dX7_item_73 : decode cX7_item 73 = .ok (.iconst 3, 1) := by decide +kernel
theorem dX7_item_74 : decode cX7_item 74 = .ok (.invokevirtual 113, 3) := by decide +kernel
theorem dX7_item_77 : decode cX7_item 77 = .ok (.ifCond .eq 46, 3) := by decide +kernel
theorem dX7_item_80 : decode cX7_item 80 = .ok (.aload_n 0, 1) := by decide +kernel
theorem dX7_item_81 : decode cX7_item 81 = .ok (.getfield 13, 3) := by decide +kernel
theorem dX7_item_84 : decode cX7_item 84 = .ok (.iconst 1, 1) := by decide +kernel
theorem dX7_item_85 : decode cX7_item 85 = .ok (.iaload, 1) := by decide +kernel
theorem dX7_item_86 : decode cX7_item 86 = .ok (.iconst 4, 1) := by decide +kernel
theorem dX7_item_87 : decode cX7_item 87 = .ok (.if_icmp .eq 36, 3) := by decide +kernel
theorem dX7_item_90 : decode cX7_item 90 = .ok (.aload_n 0, 1) := by decide +kernel
theorem dX7_item_91 : decode cX7_item 91 = .ok (.getfield 64, 3) := by decide +kernel
theorem dX7_item_94 : decode cX7_item 94 = .ok (.iconst 0, 1) := by decide +kernel
theorem dX7_item_95 : decode cX7_item 95 = .ok (.iaload, 1) := by decide +kernel
theorem dX7_item_96 : decode cX7_item 96 = .ok (.invokestatic 117, 3) := by decide +kernel
theorem dX7_item_99 : decode cX7_item 99 = .ok (.ifCond .eq 24, 3) := by decide +kernel
theorem dX7_item_102 : decode cX7_item 102 = .ok (.aload_n 0, 1) := by decide +kernel
theorem dX7_item_103 : decode cX7_item 103 = .ok (.getfield 64, 3) := by decide +kernel
theorem dX7_item_106 : decode cX7_item 106 = .ok (.iconst 1, 1) := by decide +kernel
theorem dX7_item_107 : decode cX7_item 107 = .ok (.iaload, 1) := by decide +kernel
theorem dX7_item_108 : decode cX7_item 108 = .ok (.bipush 9, 2) := by decide +kernel
theorem dX7_item_110 : decode cX7_item 110 = .ok (.if_icmp .gt 13, 3) := by decide +kernel
theorem dX7_item_113 : decode cX7_item 113 = .ok (.aload_n 0, 1) := by decide +kernel
theorem dX7_item_114 : decode cX7_item 114 = .ok (.getfield 64, 3) := by decide +kernel
theorem dX7_item_117 : decode cX7_item 117 = .ok (.iconst 2, 1) := by decide +kernel
theorem dX7_item_118 : decode cX7_item 118 = .ok (.iaload, 1) := by decide +kernel
theorem dX7_item_119 : decode cX7_item 119 = .ok (.iconst 3, 1) := by decide +kernel
theorem dX7_item_120 : decode cX7_item 120 = .ok (.if_icmp .le 5, 3) := by decide +kernel
theorem dX7_item_123 : decode cX7_item 123 = .ok (.iconst 0, 1) := by decide +kernel
theorem dX7_item_124 : decode cX7_item 124 = .ok (.ireturn, 1) := by decide +kernel
theorem dX7_item_125 : decode cX7_item 125 = .ok (.aload_n 0, 1) := by decide +kernel
theorem dX7_item_126 : decode cX7_item 126 = .ok (.getfield 16, 3) := by decide +kernel
theorem dX7_item_129 : decode cX7_item 129 = .ok (.iconst 4, 1) := by decide +kernel
theorem dX7_item_130 : decode cX7_item 130 = .ok (.aload_n 0, 1) := by decide +kernel
theorem dX7_item_131 : decode cX7_item 131 = .ok (.getfield 13, 3) := by decide +kernel
theorem dX7_item_134 : decode cX7_item 134 = .ok (.iconst 1, 1) := by decide +kernel
theorem dX7_item_135 : decode cX7_item 135 = .ok (.iaload, 1) := by decide +kernel
theorem dX7_item_136 : decode cX7_item 136 = .ok (.iadd, 1) := by decide +kernel
theorem dX7_item_137 : decode cX7_item 137 = .ok (.aload_n 0, 1) := by decide +kernel
theorem dX7_item_138 : decode cX7_item 138 = .ok (.getfield 64, 3) := by decide +kernel
theorem dX7_item_141 : decode cX7_item 141 = .ok (.iconst 0, 1) := by decide +kernel
theorem dX7_item_142 : decode cX7_item 142 = .ok (.iaload, 1) := by decide +kernel
theorem dX7_item_143 : decode cX7_item 143 = .ok (.iastore, 1) := by decide +kernel
theorem dX7_item_144 : decode cX7_item 144 = .ok (.aload_n 0, 1) := by decide +kernel
theorem dX7_item_145 : decode cX7_item 145 = .ok (.getfield 19, 3) := by decide +kernel
theorem dX7_item_148 : decode cX7_item 148 = .ok (.iconst 4, 1) := by decide +kernel
theorem dX7_item_149 : decode cX7_item 149 = .ok (.aload_n 0, 1) := by decide +kernel
theorem dX7_item_150 : decode cX7_item 150 = .ok (.getfield 13, 3) := by decide +kernel
theorem dX7_item_153 : decode cX7_item 153 = .ok (.iconst 1, 1) := by decide +kernel
theorem dX7_item_154 : decode cX7_item 154 = .ok (.iaload, 1) := by decide +kernel
theorem dX7_item_155 : decode cX7_item 155 = .ok (.iadd, 1) := by decide +kernel
theorem dX7_item_156 : decode cX7_item 156 = .ok (.aload_n 0, 1) := by decide +kernel
theorem dX7_item_157 : decode cX7_item 157 = .ok (.getfield 64, 3) := by decide +kernel
theorem dX7_item_160 : decode cX7_item 160 = .ok (.iconst 1, 1) := by decide +kernel
theorem dX7_item_161 : decode cX7_item 161 = .ok (.iaload, 1) := by decide +kernel
theorem dX7_item_162 : decode cX7_item 162 = .ok (.iastore, 1) := by decide +kernel
theorem dX7_item_163 : decode cX7_item 163 = .ok (.aload_n 0, 1) := by decide +kernel
theorem dX7_item_164 : decode cX7_item 164 = .ok (.getfield 22, 3) := by decide +kernel
theorem dX7_item_167 : decode cX7_item 167 = .ok (.iconst 4, 1) := by decide +kernel
theorem dX7_item_168 : decode cX7_item 168 = .ok (.aload_n 0, 1) := by decide +kernel
theorem dX7_item_169 : decode cX7_item 169 = .ok (.getfield 13, 3) := by decide +kernel
theorem dX7_item_172 : decode cX7_item 172 = .ok (.iconst 1, 1) := by decide +kernel
theorem dX7_item_173 : decode cX7_item 173 = .ok (.iaload, 1) := by decide +kernel
theorem dX7_item_174 : decode cX7_item 174 = .ok (.iadd, 1) := by decide +kernel
theorem dX7_item_175 : decode cX7_item 175 = .ok (.aload_n 0, 1) := by decide +kernel
theorem dX7_item_176 : decode cX7_item 176 = .ok (.getfield 64, 3) := by decide +kernel
theorem dX7_item_179 : decode cX7_item 179 = .ok (.iconst 2, 1) := by decide +kernel
theorem dX7_item_180 : decode cX7_item 180 = .ok (.iaload, 1) := by decide +kernel
theorem dX7_item_181 : decode cX7_item 181 = .ok (.iastore, 1) := by decide +kernel
theorem dX7_item_182 : decode cX7_item 182 = .ok (.aload_n 0, 1) := by decide +kernel
theorem dX7_item_183 : decode cX7_item 183 = .ok (.getfield 13, 3) := by decide +kernel
theorem dX7_item_186 : decode cX7_item 186 = .ok (.iconst 1, 1) := by decide +kernel
theorem dX7_item_187 : decode cX7_item 187 = .ok (.dup2, 1) := by decide +kernel
theorem dX7_item_188 : decode cX7_item 188 = .ok (.iaload, 1) := by decide +kernel
theorem dX7_item_189 : decode cX7_item 189 = .ok (.iconst 1, 1) := by decide +kernel
theorem dX7_item_190 : decode cX7_item 190 = .ok (.iadd, 1) := by decide +kernel
theorem dX7_item_191 : decode cX7_item 191 = .ok (.iastore, 1) := by decide +kernel
theorem dX7_item_192 : decode cX7_item 192 = .ok (.iconst 1, 1) := by decide +kernel
theorem dX7_item_193 : decode cX7_item 193 = .ok (.ireturn, 1) := by decide +kernel
theorem dX7_item_194 : decode cX7_item 194 = .ok (.aload_n 0, 1) := by decide +kernel
theorem dX7_item_195 : decode cX7_item 195 = .ok (.iconst 3, 1) := by decide +kernel
theorem dX7_item_196 : decode cX7_item 196 = .ok (.invokevirtual 113, 3) := by decide +kernel
theorem dX7_item_199 : decode cX7_item 199 = .ok (.ifCond .eq 38, 3) := by decide +kernel
theorem dX7_item_202 : decode cX7_item 202 = .ok (.aload_n 0, 1) := by decide +kernel
theorem dX7_item_203 : decode cX7_item 203 = .ok (.getfield 28, 3) := by decide +kernel
theorem dX7_item_206 : decode cX7_item 206 = .ok (.iconst 1, 1) := by decide +kernel
theorem dX7_item_207 : decode cX7_item 207 = .ok (.iaload, 1) := by decide +kernel
theorem dX7_item_208 : decode cX7_item 208 = .ok (.bipush 8, 2) := by decide +kernel
theorem dX7_item_210 : decode cX7_item 210 = .ok (.if_icmp .eq 27, 3) := by decide +kernel
theorem dX7_item_213 : decode cX7_item 213 = .ok (.aload_n 0, 1) := by decide +kernel
theorem dX7_item_214 : decode cX7_item 214 = .ok (.getfield 64, 3) := by decide +kernel
theorem dX7_item_217 : decode cX7_item 217 = .ok (.iconst 0, 1) := by decide +kernel
theorem dX7_item_218 : decode cX7_item 218 = .ok (.iaload, 1) := by decide +kernel
theorem dX7_item_219 : decode cX7_item 219 = .ok (.aload_n 0, 1) := by decide +kernel
theorem dX7_item_220 : decode cX7_item 220 = .ok (.getfield 64, 3) := by decide +kernel
theorem dX7_item_223 : decode cX7_item 223 = .ok (.iconst 1, 1) := by decide +kernel
theorem dX7_item_224 : decode cX7_item 224 = .ok (.iaload, 1) := by decide +kernel
theorem dX7_item_225 : decode cX7_item 225 = .ok (.aload_n 0, 1) := by decide +kernel
theorem dX7_item_226 : decode cX7_item 226 = .ok (.getfield 64, 3) := by decide +kernel
theorem dX7_item_229 : decode cX7_item 229 = .ok (.iconst 2, 1) := by decide +kernel
theorem dX7_item_230 : decode cX7_item 230 = .ok (.iaload, 1) := by decide +kernel
theorem dX7_item_231 : decode cX7_item 231 = .ok (.invokestatic 120, 3) := by decide +kernel
theorem dX7_item_234 : decode cX7_item 234 = .ok (.ifCond .ne 5, 3) := by decide +kernel
theorem dX7_item_237 : decode cX7_item 237 = .ok (.iconst 0, 1) := by decide +kernel
theorem dX7_item_238 : decode cX7_item 238 = .ok (.ireturn, 1) := by decide +kernel
theorem dX7_item_239 : decode cX7_item 239 = .ok (.aload_n 0, 1) := by decide +kernel
theorem dX7_item_240 : decode cX7_item 240 = .ok (.iconst 1, 1) := by decide +kernel
theorem dX7_item_241 : decode cX7_item 241 = .ok (.aload_n 0, 1) := by decide +kernel
theorem dX7_item_242 : decode cX7_item 242 = .ok (.getfield 64, 3) := by decide +kernel
theorem dX7_item_245 : decode cX7_item 245 = .ok (.iconst 0, 1) := by decide +kernel
theorem dX7_item_246 : decode cX7_item 246 = .ok (.iaload, 1) := by decide +kernel
theorem dX7_item_247 : decode cX7_item 247 = .ok (.aload_n 0, 1) := by decide +kernel
theorem dX7_item_248 : decode cX7_item 248 = .ok (.getfield 64, 3) := by decide +kernel
theorem dX7_item_251 : decode cX7_item 251 = .ok (.iconst 1, 1) := by decide +kernel
theorem dX7_item_252 : decode cX7_item 252 = .ok (.iaload, 1) := by decide +kernel
theorem dX7_item_253 : decode cX7_item 253 = .ok (.aload_n 0, 1) := by decide +kernel
theorem dX7_item_254 : decode cX7_item 254 = .ok (.getfield 64, 3) := by decide +kernel
theorem dX7_item_257 : decode cX7_item 257 = .ok (.iconst 2, 1) := by decide +kernel
theorem dX7_item_258 : decode cX7_item 258 = .ok (.iaload, 1) := by decide +kernel
theorem dX7_item_259 : decode cX7_item 259 = .ok (.invokevirtual 124, 3) := by decide +kernel
theorem dX7_item_262 : decode cX7_item 262 = .ok (.iconst 1, 1) := by decide +kernel
theorem dX7_item_263 : decode cX7_item 263 = .ok (.ireturn, 1) := by decide +kernel
theorem dX7_item_264 : decode cX7_item 264 = .ok (.aload_n 0, 1) := by decide +kernel
theorem dX7_item_265 : decode cX7_item 265 = .ok (.iconst 1, 1) := by decide +kernel
theorem dX7_item_266 : decode cX7_item 266 = .ok (.invokevirtual 113, 3) := by decide +kernel
theorem dX7_item_269 : decode cX7_item 269 = .ok (.ifCond .eq 15, 3) := by decide +kernel
theorem dX7_item_272 : decode cX7_item 272 = .ok (.aload_n 0, 1) := by decide +kernel
theorem dX7_item_273 : decode cX7_item 273 = .ok (.getfield 64, 3) := by decide +kernel
theorem dX7_item_276 : decode cX7_item 276 = .ok (.iconst 0, 1) := by decide +kernel
theorem dX7_item_277 : decode cX7_item 277 = .ok (.iaload, 1) := by decide +kernel
theorem dX7_item_278 : decode cX7_item 278 = .ok (.invokestatic 117, 3) := by decide +kernel
theorem dX7_item_281 : decode cX7_item 281 = .ok (.ifCond .ne 5, 3) := by decide +kernel
theorem dX7_item_284 : decode cX7_item 284 = .ok (.iconst 0, 1) := by decide +kernel
theorem dX7_item_285 : decode cX7_item 285 = .ok (.ireturn, 1) := by decide +kernel
theorem dX7_item_286 : decode cX7_item 286 = .ok (.aload_n 0, 1) := by decide +kernel
theorem dX7_item_287 : decode cX7_item 287 = .ok (.getfield 40, 3) := by decide +kernel
theorem dX7_item_290 : decode cX7_item 290 = .ok (.iconst 1, 1) := by decide +kernel
theorem dX7_item_291 : decode cX7_item 291 = .ok (.aload_n 0, 1) := by decide +kernel
theorem dX7_item_292 : decode cX7_item 292 = .ok (.getfield 64, 3) := by decide +kernel
theorem dX7_item_295 : decode cX7_item 295 = .ok (.iconst 0, 1) := by decide +kernel
theorem dX7_item_296 : decode cX7_item 296 = .ok (.iaload, 1) := by decide +kernel
theorem dX7_item_297 : decode cX7_item 297 = .ok (.iastore, 1) := by decide +kernel
theorem dX7_item_298 : decode cX7_item 298 = .ok (.iconst 1, 1) := by decide +kernel
theorem dX7_item_299 : decode cX7_item 299 = .ok (.ireturn, 1) := by decide +kernel
theorem dX7_item_300 : decode cX7_item 300 = .ok (.aload_n 0, 1) := by decide +kernel
theorem dX7_item_301 : decode cX7_item 301 = .ok (.iconst 1, 1) := by decide +kernel
theorem dX7_item_302 : decode cX7_item 302 = .ok (.invokevirtual 113, 3) := by decide +kernel
theorem dX7_item_305 : decode cX7_item 305 = .ok (.ifCond .eq 15, 3) := by decide +kernel
theorem dX7_item_308 : decode cX7_item 308 = .ok (.aload_n 0, 1) := by decide +kernel
theorem dX7_item_309 : decode cX7_item 309 = .ok (.getfield 64, 3) := by decide +kernel
theorem dX7_item_312 : decode cX7_item 312 = .ok (.iconst 0, 1) := by decide +kernel
theorem dX7_item_313 : decode cX7_item 313 = .ok (.iaload, 1) := by decide +kernel
theorem dX7_item_314 : decode cX7_item 314 = .ok (.invokestatic 117, 3) := by decide +kernel
theorem dX7_item_317 : decode cX7_item 317 = .ok (.ifCond .ne 5, 3) := by decide +kernel
theorem dX7_item_320 : decode cX7_item 320 = .ok (.iconst 0, 1) := by decide +kernel
theorem dX7_item_321 : decode cX7_item 321 = .ok (.ireturn, 1) := by decide +kernel
theorem dX7_item_322 : decode cX7_item 322 = .ok (.aload_n 0, 1) := by decide +kernel
theorem dX7_item_323 : decode cX7_item 323 = .ok (.getfield 43, 3) := by decide +kernel
theorem dX7_item_326 : decode cX7_item 326 = .ok (.iconst 1, 1) := by decide +kernel
theorem dX7_item_327 : decode cX7_item 327 = .ok (.aload_n 0, 1) := by decide +kernel
theorem dX7_item_328 : decode cX7_item 328 = .ok (.getfield 64, 3) := by decide +kernel
theorem dX7_item_331 : decode cX7_item 331 = .ok (.iconst 0, 1) := by decide +kernel
theorem dX7_item_332 : decode cX7_item 332 = .ok (.iaload, 1) := by decide +kernel
theorem dX7_item_333 : decode cX7_item 333 = .ok (.iastore, 1) := by decide +kernel
theorem dX7_item_334 : decode cX7_item 334 = .ok (.iconst 1, 1) := by decide +kernel
theorem dX7_item_335 : decode cX7_item 335 = .ok (.ireturn, 1) := by decide +kernel
theorem dX7_item_336 : decode cX7_item 336 = .ok (.aload_n 0, 1) := by decide +kernel
theorem dX7_item_337 : decode cX7_item 337 = .ok (.iconst 1, 1) := by decide +kernel
theorem dX7_item_338 : decode cX7_item 338 = .ok (.invokevirtual 113, 3) := by decide +kernel
theorem dX7_item_341 : decode cX7_item 341 = .ok (.ifCond .eq 20, 3) := by decide +kernel
theorem dX7_item_344 : decode cX7_item 344 = .ok (.aload_n 0, 1) := by decide +kernel
theorem dX7_item_345 : decode cX7_item 345 = .ok (.getfield 64, 3) := by decide +kernel
theorem dX7_item_348 : decode cX7_item 348 = .ok (.iconst 0, 1) := by decide +kernel
theorem dX7_item_349 : decode cX7_item 349 = .ok (.iaload, 1) := by decide +kernel
theorem dX7_item_350 : decode cX7_item 350 = .ok (.i2l, 1) := by decide +kernel
theorem dX7_item_351 : decode cX7_item 351 = .ok (.lconst 1, 1) := by decide +kernel
theorem dX7_item_352 : decode cX7_item 352 = .ok (.ldc2_w 128, 3) := by decide +kernel
theorem dX7_item_355 : decode cX7_item 355 = .ok (.invokestatic 82, 3) := by decide +kernel
theorem dX7_item_358 : decode cX7_item 358 = .ok (.ifCond .ne 5, 3) := by decide +kernel
theorem dX7_item_361 : decode cX7_item 361 = .ok (.iconst 0, 1) := by decide +kernel
theorem dX7_item_362 : decode cX7_item 362 = .ok (.ireturn, 1) := by decide +kernel
theorem dX7_item_363 : decode cX7_item 363 = .ok (.aload_n 0, 1) := by decide +kernel
theorem dX7_item_364 : decode cX7_item 364 = .ok (.getfield 25, 3) := by decide +kernel
theorem dX7_item_367 : decode cX7_item 367 = .ok (.iconst 1, 1) := by decide +kernel
theorem dX7_item_368 : decode cX7_item 368 = .ok (.aload_n 0, 1) := by decide +kernel
theorem dX7_item_369 : decode cX7_item 369 = .ok (.getfield 64, 3) := by decide +kernel
theorem dX7_item_372 : decode cX7_item 372 = .ok (.iconst 0, 1) := by decide +kernel
theorem dX7_item_373 : decode cX7_item 373 = .ok (.iaload, 1) := by decide +kernel
theorem dX7_item_374 : decode cX7_item 374 = .ok (.iastore, 1) := by decide +kernel
theorem dX7_item_375 : decode cX7_item 375 = .ok (.iconst 1, 1) := by decide +kernel
theorem dX7_item_376 : decode cX7_item 376 = .ok (.ireturn, 1) := by decide +kernel
theorem dX7_item_377 : decode cX7_item 377 = .ok (.iconst 0, 1) := by decide +kernel
theorem dX7_item_378 : decode cX7_item 378 = .ok (.ireturn, 1) := by decide +kernel
set_option maxRecDepth 20000 in
theorem ggX7_readAll_X7_noCanyon : GoodIn wsX7_readAll wsX7_noCanyon := goodIn_r _ [7, 8, 9, 10, 11, 12, 13, 55, 56, 57, 58, 59, 60, 61, 62, 63, 64, 65, 66, 67, 68, 69, 70, 71, 72, 73, 74, 75, 76, 77, 78, 79, 80, 81, 82] (by decide +kernel) (by decide +kernel)
set_option maxRecDepth 20000 in
theorem gX7_readAll_X7_noCanyon : GoodIn wsX7_readAll (wsV RX7 76 RX7 yX7_noCanyon wsX7_noCanyon) := goodIn_app (goodIn_of _ (by decide +kernel)) ggX7_readAll_X7_noCanyon
set_option maxRecDepth 20000 in
theorem ggX7_readAll_X7_item : GoodIn wsX7_readAll wsX7_item := goodIn_r _ [17, 1, 8, 18, 19, 20, 21, 10, 11, 12, 22, 9, 23, 24, 25, 6, 26, 2, 27, 28, 29, 30, 31, 32, 33, 34, 35, 36, 37, 38, 39, 40, 41, 42, 43, 44, 45, 46, 47, 48, 49, 50, 51, 52, 53, 54, 55, 56, 57, 58, 59, 60, 61, 62, 63, 64, 65, 66, 67, 68, 69, 70, 71, 72, 73, 74, 75, 76, 77, 78, 79, 80, 81, 82] (by decide +kernel) (by decide +kernel)
set_option maxRecDepth 20000 in
theorem gX7_readAll_X7_item : GoodIn wsX7_readAll (wsV RX7 130 RX7 yX7_item wsX7_item) := goodIn_app (goodIn_of _ (by decide +kernel)) ggX7_readAll_X7_item
theorem dX7_readAll_0 : decode cX7_readAll 0 = .ok (.aload_n 0, 1) := by decide +kernel
theorem dX7_readAll_1 : decode cX7_readAll 1 = .ok (.iconst 1, 1) := by decide +kernel
theorem dX7_readAll_2 : decode cX7_readAll 2 = .ok (.invokevirtual 76, 3) := by decide +kernel
theorem dX7_readAll_5 : decode cX7_readAll 5 = .ok (.aload_n 0, 1) := by decide +kernel
theorem dX7_readAll_6 : decode cX7_readAll 6 = .ok (.iconst 0, 1) := by decide +kernel
theorem dX7_readAll_7 : decode cX7_readAll 7 = .ok (.putfield 92, 3) := by decide +kernel
theorem dX7_readAll_10 : decode cX7_readAll 10 = .ok (.aload_n 0, 1) := by decide +kernel
theorem dX7_readAll_11 : decode cX7_readAll 11 = .ok (.getfield 92, 3) := by decide +kernel
theorem dX7_readAll_14 : decode cX7_readAll 14 = .ok (.aload_n 0, 1) := by decide +kernel
theorem dX7_readAll_15 : decode cX7_readAll 15 = .ok (.getfield 86, 3) := by decide +kernel
theorem dX7_readAll_18 : decode cX7_readAll 18 = .ok (.if_icmp .ge 20, 3) := by decide +kernel
theorem dX7_readAll_21 : decode cX7_readAll 21 = .ok (.aload_n 0, 1) := by decide +kernel
theorem dX7_readAll_22 : decode cX7_readAll 22 = .ok (.getfield 92, 3) := by decide +kernel
theorem dX7_readAll_25 : decode cX7_readAll 25 = .ok (.istore_n 1, 1) := by decide +kernel
theorem dX7_readAll_26 : decode cX7_readAll 26 = .ok (.aload_n 0, 1) := by decide +kernel
theorem dX7_readAll_27 : decode cX7_readAll 27 = .ok (.invokevirtual 130, 3) := by decide +kernel
theorem dX7_readAll_30 : decode cX7_readAll 30 = .ok (.ifCond .ne 5, 3) := by decide +kernel
theorem dX7_readAll_33 : decode cX7_readAll 33 = .ok (.iload_n 1, 1) := by decide +kernel
theorem dX7_readAll_34 : decode cX7_readAll 34 = .ok (.ireturn, 1) := by decide +kernel
theorem dX7_readAll_35 : decode cX7_readAll 35 = .ok (.goto (-25), 3) := by decide +kernel
theorem dX7_readAll_38 : decode cX7_readAll 38 = .ok (.bipush (-4), 2) := by decide +kernel
theorem dX7_readAll_40 : decode cX7_readAll 40 = .ok (.ireturn, 1) := by decide +kernel
set_option maxRecDepth 20000 in
theorem ggX7_fault_X7_readAll : GoodIn wsX7_fault wsX7_readAll := goodIn_r _ [5, 6, 7, 8, 9, 10, 4, 11, 12, 13, 14, 15, 16, 17, 18, 19, 20, 21, 22, 23, 24, 25, 26, 27, 28, 29, 30, 31, 32, 33, 34, 35, 36, 37, 38, 39, 40, 41, 42, 43, 44, 45, 46, 47, 48, 49, 50, 51, 52, 53, 54, 55, 56, 57, 58, 59, 60, 61, 62, 63, 64, 65, 66, 67, 68, 69, 70, 71, 72, 73, 74, 75, 76, 77, 78, 79, 80, 81, 82, 83, 84, 85, 86] (by decide +kernel) (by decide +kernel)
set_option maxRecDepth 20000 in
theorem gX7_fault_X7_readAll : GoodIn wsX7_fault (wsV RX7 134 RX7 yX7_readAll wsX7_readAll) := goodIn_app (goodIn_of _ (by decide +kernel)) ggX7_fault_X7_readAll
theorem dX7_fault_0 : decode cX7_fault 0 = .ok (.aload_n 0, 1) := by decide +kernel
theorem dX7_fault_1 : decode cX7_fault 1 = .ok (.invokevirtual 134, 3) := by decide +kernel
theorem dX7_fault_4 : decode cX7_fault 4 = .ok (.ireturn, 1) := by decide +kernel
theorem dX7_copy_0 : decode cX7_copy 0 = .ok (.aload_n 0, 1) := by decide +kernel
theorem dX7_copy_1 : decode cX7_copy 1 = .ok (.getfield 28, 3) := by decide +kernel
theorem dX7_copy_4 : decode cX7_copy 4 = .ok (.iload_n 2, 1) := by decide +kernel
theorem dX7_copy_5 : decode cX7_copy 5 = .ok (.aload_n 0, 1) := by decide +kernel
theorem dX7_copy_6 : decode cX7_copy 6 = .ok (.getfield 28, 3) := by decide +kernel
theorem dX7_copy_9 : decode cX7_copy 9 = .ok (.iload_n 1, 1) := by decide +kernel
theorem dX7_copy_10 : decode cX7_copy 10 = .ok (.iaload, 1) := by decide +kernel
theorem dX7_copy_11 : decode cX7_copy 11 = .ok (.iastore, 1) := by decide +kernel
theorem dX7_copy_12 : decode cX7_copy 12 = .ok (.aload_n 0, 1) := by decide +kernel
theorem dX7_copy_13 : decode cX7_copy 13 = .ok (.getfield 40, 3) := by decide +kernel
theorem dX7_copy_16 : decode cX7_copy 16 = .ok (.iload_n 2, 1) := by decide +kernel
theorem dX7_copy_17 : decode cX7_copy 17 = .ok (.aload_n 0, 1) := by decide +kernel
theorem dX7_copy_18 : decode cX7_copy 18 = .ok (.getfield 40, 3) := by decide +kernel
theorem dX7_copy_21 : decode cX7_copy 21 = .ok (.iload_n 1, 1) := by decide +kernel
theorem dX7_copy_22 : decode cX7_copy 22 = .ok (.iaload, 1) := by decide +kernel
theorem dX7_copy_23 : decode cX7_copy 23 = .ok (.iastore, 1) := by decide +kernel
theorem dX7_copy_24 : decode cX7_copy 24 = .ok (.aload_n 0, 1) := by decide +kernel
theorem dX7_copy_25 : decode cX7_copy 25 = .ok (.getfield 43, 3) := by decide +kernel
theorem dX7_copy_28 : decode cX7_copy 28 = .ok (.iload_n 2, 1) := by decide +kernel
theorem dX7_copy_29 : decode cX7_copy 29 = .ok (.aload_n 0, 1) := by decide +kernel
theorem dX7_copy_30 : decode cX7_copy 30 = .ok (.getfield 43, 3) := by decide +kernel
theorem dX7_copy_33 : decode cX7_copy 33 = .ok (.iload_n 1, 1) := by decide +kernel
theorem dX7_copy_34 : decode cX7_copy 34 = .ok (.iaload, 1) := by decide +kernel
theorem dX7_copy_35 : decode cX7_copy 35 = .ok (.iastore, 1) := by decide +kernel
theorem dX7_copy_36 : decode cX7_copy 36 = .ok (.aload_n 0, 1) := by decide +kernel
theorem dX7_copy_37 : decode cX7_copy 37 = .ok (.getfield 46, 3) := by decide +kernel
theorem dX7_copy_40 : decode cX7_copy 40 = .ok (.iload_n 2, 1) := by decide +kernel
theorem dX7_copy_41 : decode cX7_copy 41 = .ok (.aload_n 0, 1) := by decide +kernel
theorem dX7_copy_42 : decode cX7_copy 42 = .ok (.getfield 46, 3) := by decide +kernel
theorem dX7_copy_45 : decode cX7_copy 45 = .ok (.iload_n 1, 1) := by decide +kernel
theorem dX7_copy_46 : decode cX7_copy 46 = .ok (.iaload, 1) := by decide +kernel
theorem dX7_copy_47 : decode cX7_copy 47 = .ok (.iastore, 1) := by decide +kernel
theorem dX7_copy_48 : decode cX7_copy 48 = .ok (.iconst 0, 1) := by decide +kernel
theorem dX7_copy_49 : decode cX7_copy 49 = .ok (.istore_n 3, 1) := by decide +kernel
theorem dX7_copy_50 : decode cX7_copy 50 = .ok (.iload_n 3, 1) := by decide +kernel
theorem dX7_copy_51 : decode cX7_copy 51 = .ok (.bipush 8, 2) := by decide +kernel
theorem dX7_copy_53 : decode cX7_copy 53 = .ok (.if_icmp .ge 75, 3) := by decide +kernel
theorem dX7_copy_56 : decode cX7_copy 56 = .ok (.aload_n 0, 1) := by decide +kernel
theorem dX7_copy_57 : decode cX7_copy 57 = .ok (.getfield 31, 3) := by decide +kernel
theorem dX7_copy_60 : decode cX7_copy 60 = .ok (.bipush 8, 2) := by decide +kernel
theorem dX7_copy_62 : decode cX7_copy 62 = .ok (.iload_n 2, 1) := by decide +kernel
theorem dX7_copy_63 : decode cX7_copy 63 = .ok (.imul, 1) := by decide +kernel
theorem dX7_copy_64 : decode cX7_copy 64 = .ok (.iload_n 3, 1) := by decide +kernel
theorem dX7_copy_65 : decode cX7_copy 65 = .ok (.iadd, 1) := by decide +kernel
theorem dX7_copy_66 : decode cX7_copy 66 = .ok (.aload_n 0, 1) := by decide +kernel
theorem dX7_copy_67 : decode cX7_copy 67 = .ok (.getfield 31, 3) := by decide +kernel
theorem dX7_copy_70 : decode cX7_copy 70 = .ok (.bipush 8, 2) := by decide +kernel
theorem dX7_copy_72 : decode cX7_copy 72 = .ok (.iload_n 1, 1) := by decide +kernel
theorem dX7_copy_73 : decode cX7_copy 73 = .ok (.imul, 1) := by decide +kernel
theorem dX7_copy_74 : decode cX7_copy 74 = .ok (.iload_n 3, 1) := by decide +kernel
theorem dX7_copy_75 : decode cX7_copy 75 = .ok (.iadd, 1) := by decide +kernel
theorem dX7_copy_76 : decode cX7_copy 76 = .ok (.iaload, 1) := by decide +kernel
theorem dX7_copy_77 : decode cX7_copy 77 = .ok (.iastore, 1) := by decide +kernel
theorem dX7_copy_78 : decode cX7_copy 78 = .ok (.aload_n 0, 1) := by decide +kernel
theorem dX7_copy_79 : decode cX7_copy 79 = .ok (.getfield 34, 3) := by decide +kernel
theorem dX7_copy_82 : decode cX7_copy 82 = .ok (.bipush 8, 2) := by decide +kernel
theorem dX7_copy_84 : decode cX7_copy 84 = .ok (.iload_n 2, 1) := by decide +kernel
theorem dX7_copy_85 : decode cX7_copy 85 = .ok (.imul, 1) := by decide +kernel
theorem dX7_copy_86 : decode cX7_copy 86 = .ok (.iload_n 3, 1) := by decide +kernel
theorem dX7_copy_87 : decode cX7_copy 87 = .ok (.iadd, 1) := by decide +kernel
theorem dX7_copy_88 : decode cX7_copy 88 = .ok (.aload_n 0, 1) := by decide +kernel
theorem dX7_copy_89 : decode cX7_copy 89 = .ok (.getfield 34, 3) := by decide +kernel
theorem dX7_copy_92 : decode cX7_copy 92 = .ok (.bipush 8, 2) := by decide +kernel
theorem dX7_copy_94 : decode cX7_copy 94 = .ok (.iload_n 1, 1) := by decide +kernel
theorem dX7_copy_95 : decode cX7_copy 95 = .ok (.imul, 1) := by decide +kernel
theorem dX7_copy_96 : decode cX7_copy 96 = .ok (.iload_n 3, 1) := by decide +kernel
theorem dX7_copy_97 : decode cX7_copy 97 = .ok (.iadd, 1) := by decide +kernel
theorem dX7_copy_98 : decode cX7_copy 98 = .ok (.iaload, 1) := by decide +kernel
theorem dX7_copy_99 : decode cX7_copy 99 = .ok (.iastore, 1) := by decide +kernel
theorem dX7_copy_100 : decode cX7_copy 100 = .ok (.aload_n 0, 1) := by decide +kernel
theorem dX7_copy_101 : decode cX7_copy 101 = .ok (.getfield 37, 3) := by decide +kernel
theorem dX7_copy_104 : decode cX7_copy 104 = .ok (.bipush 8, 2) := by decide +kernel
theorem dX7_copy_106 : decode cX7_copy 106 = .ok (.iload_n 2, 1) := by decide +kernel
theorem dX7_copy_107 : decode cX7_copy 107 = .ok (.imul, 1) := by decide +kernel
theorem dX7_copy_108 : decode cX7_copy 108 = .ok (.iload_n 3, 1) := by decide +kernel
theorem dX7_copy_109 : decode cX7_copy 109 = .ok (.iadd, 1) := by decide +kernel
theorem dX7_copy_110 : decode cX7_copy 110 = .ok (.aload_n 0, 1) := by decide +kernel
theorem dX7_copy_111 : decode cX7_copy 111 = .ok (.getfield 37, 3) := by decide +kernel
theorem dX7_copy_114 : decode cX7_copy 114 = .ok (.bipush 8, 2) := by decide +kernel
theorem dX7_copy_116 : decode cX7_copy 116 = .ok (.iload_n 1, 1) := by decide +kernel
theorem dX7_copy_117 : decode cX7_copy 117 = .ok (.imul, 1) := by decide +kernel
theorem dX7_copy_118 : decode cX7_copy 118 = .ok (.iload_n 3, 1) := by decide +kernel
theorem dX7_copy_119 : decode cX7_copy 119 = .ok (.iadd, 1) := by decide +kernel
theorem dX7_copy_120 : decode cX7_copy 120 = .ok (.iaload, 1) := by decide +kernel
theorem dX7_copy_121 : decode cX7_copy 121 = .ok (.iastore, 1) := by decide +kernel
theorem dX7_copy_122 : decode cX7_copy 122 = .ok (.iinc 3 1, 3) := by decide +kernel
theorem dX7_copy_125 : decode cX7_copy 125 = .ok (.goto (-75), 3) := by decide +kernel
theorem dX7_copy_128 : decode cX7_copy 128 = .ok (.return_, 1) := by decide +kernel
set_option maxRecDepth 20000 in
theorem ggX7_lay_X7_readAll : GoodIn wsX7_lay wsX7_readAll := goodIn_r _ [15, 16, 17, 18, 19, 20, 14, 21, 2, 3, 1, 22, 23, 24, 25, 26, 27, 28, 29, 4, 5, 6, 30, 31, 32, 33, 34, 35, 36, 37, 38, 39, 40, 41, 42, 43, 44, 45, 46, 47, 48, 49, 50, 51, 52, 53, 54, 55, 56, 57, 58, 59, 60, 61, 62, 67, 68, 69, 70, 71, 72, 73, 74, 75, 76, 77, 78, 79, 80, 81, 82, 83, 84, 85, 86, 87, 88, 89, 90, 91, 92, 93, 94] (by decide +kernel) (by decide +kernel)
set_option maxRecDepth 20000 in
theorem gX7_lay_X7_readAll : GoodIn wsX7_lay (wsV RX7 134 RX7 yX7_readAll wsX7_readAll) := goodIn_app (goodIn_of _ (by decide +kernel)) ggX7_lay_X7_readAll
set_option maxRecDepth 20000 in
theorem ggX7_lay_X7_copy : GoodIn wsX7_lay wsX7_copy := goodIn_r _ [66, 1, 22, 23, 24, 60, 61, 62, 67, 68, 69, 70, 71, 72, 73, 74, 75, 76, 77, 78, 79, 80, 81, 82, 83, 84, 85, 86, 87, 88, 89, 90, 91, 92, 93, 94] (by decide +kernel) (by decide +kernel)
set_option maxRecDepth 20000 in
theorem gX7_lay_X7_copy : GoodIn wsX7_lay (wsV RX7 138 RX7 yX7_copy wsX7_copy) := goodIn_app (goodIn_of _ (by decide +kernel)) ggX7_lay_X7_copy
theorem dX7_lay_0 : decode cX7_lay 0 = .ok (.aload_n 0, 1) := by decide +kernel
theorem dX7_lay_1 : decode cX7_lay 1 = .ok (.invokevirtual 134, 3) := by decide +kernel
theorem dX7_lay_4 : decode cX7_lay 4 = .ok (.bipush (-4), 2) := by decide +kernel
theorem dX7_lay_6 : decode cX7_lay 6 = .ok (.if_icmp .ne 12, 3) := by decide +kernel
theorem dX7_lay_9 : decode cX7_lay 9 = .ok (.aload_n 0, 1) := by decide +kernel
theorem dX7_lay_10 : decode cX7_lay 10 = .ok (.getfield 28, 3) := by decide +kernel
theorem dX7_lay_13 : decode cX7_lay 13 = .ok (.iconst 1, 1) := by decide +kernel
theorem dX7_lay_14 : decode cX7_lay 14 = .ok (.iaload, 1) := by decide +kernel
theorem dX7_lay_15 : decode cX7_lay 15 = .ok (.ifCond .ne 6, 3) := by decide +kernel
theorem dX7_lay_18 : decode cX7_lay 18 = .ok (.bipush (-2), 2) := by decide +kernel
theorem dX7_lay_20 : decode cX7_lay 20 = .ok (.ireturn, 1) := by decide +kernel
theorem dX7_lay_21 : decode cX7_lay 21 = .ok (.aload_n 0, 1) := by decide +kernel
theorem dX7_lay_22 : decode cX7_lay 22 = .ok (.getfield 13, 3) := by decide +kernel
theorem dX7_lay_25 : decode cX7_lay 25 = .ok (.iconst 0, 1) := by decide +kernel
theorem dX7_lay_26 : decode cX7_lay 26 = .ok (.aload_n 0, 1) := by decide +kernel
theorem dX7_lay_27 : decode cX7_lay 27 = .ok (.getfield 13, 3) := by decide +kernel
theorem dX7_lay_30 : decode cX7_lay 30 = .ok (.iconst 1, 1) := by decide +kernel
theorem dX7_lay_31 : decode cX7_lay 31 = .ok (.iaload, 1) := by decide +kernel
theorem dX7_lay_32 : decode cX7_lay 32 = .ok (.iastore, 1) := by decide +kernel
theorem dX7_lay_33 : decode cX7_lay 33 = .ok (.aload_n 0, 1) := by decide +kernel
theorem dX7_lay_34 : decode cX7_lay 34 = .ok (.getfield 25, 3) := by decide +kernel
theorem dX7_lay_37 : decode cX7_lay 37 = .ok (.iconst 0, 1) := by decide +kernel
theorem dX7_lay_38 : decode cX7_lay 38 = .ok (.aload_n 0, 1) := by decide +kernel
theorem dX7_lay_39 : decode cX7_lay 39 = .ok (.getfield 25, 3) := by decide +kernel
theorem dX7_lay_42 : decode cX7_lay 42 = .ok (.iconst 1, 1) := by decide +kernel
theorem dX7_lay_43 : decode cX7_lay 43 = .ok (.iaload, 1) := by decide +kernel
theorem dX7_lay_44 : decode cX7_lay 44 = .ok (.iastore, 1) := by decide +kernel
theorem dX7_lay_45 : decode cX7_lay 45 = .ok (.iconst 0, 1) := by decide +kernel
theorem dX7_lay_46 : decode cX7_lay 46 = .ok (.istore_n 1, 1) := by decide +kernel
theorem dX7_lay_47 : decode cX7_lay 47 = .ok (.iload_n 1, 1) := by decide +kernel
theorem dX7_lay_48 : decode cX7_lay 48 = .ok (.iconst 4, 1) := by decide +kernel
theorem dX7_lay_49 : decode cX7_lay 49 = .ok (.if_icmp .ge 51, 3) := by decide +kernel
theorem dX7_lay_52 : decode cX7_lay 52 = .ok (.aload_n 0, 1) := by decide +kernel
theorem dX7_lay_53 : decode cX7_lay 53 = .ok (.getfield 16, 3) := by decide +kernel
theorem dX7_lay_56 : decode cX7_lay 56 = .ok (.iload_n 1, 1) := by decide +kernel
theorem dX7_lay_57 : decode cX7_lay 57 = .ok (.aload_n 0, 1) := by decide +kernel
theorem dX7_lay_58 : decode cX7_lay 58 = .ok (.getfield 16, 3) := by decide +kernel
theorem dX7_lay_61 : decode cX7_lay 61 = .ok (.iconst 4, 1) := by decide +kernel
theorem dX7_lay_62 : decode cX7_lay 62 = .ok (.iload_n 1, 1) := by decide +kernel
theorem dX7_lay_63 : decode cX7_lay 63 = .ok (.iadd, 1) := by decide +kernel
theorem dX7_lay_64 : decode cX7_lay 64 = .ok (.iaload, 1) := by decide +kernel
theorem dX7_lay_65 : decode cX7_lay 65 = .ok (.iastore, 1) := by decide +kernel
theorem dX7_lay_66 : decode cX7_lay 66 = .ok (.aload_n 0, 1) := by decide +kernel
theorem dX7_lay_67 : decode cX7_lay 67 = .ok (.getfield 19, 3) := by decide +kernel
theorem dX7_lay_70 : decode cX7_lay 70 = .ok (.iload_n 1, 1) := by decide +kernel
theorem dX7_lay_71 : decode cX7_lay 71 = .ok (.aload_n 0, 1) := by decide +kernel
theorem dX7_lay_72 : decode cX7_lay 72 = .ok (.getfield 19, 3) := by decide +kernel
theorem dX7_lay_75 : decode cX7_lay 75 = .ok (.iconst 4, 1) := by decide +kernel
theorem dX7_lay_76 : decode cX7_lay 76 = .ok (.iload_n 1, 1) := by decide +kernel
theorem dX7_lay_77 : decode cX7_lay 77 = .ok (.iadd, 1) := by decide +kernel
theorem dX7_lay_78 : decode cX7_lay 78 = .ok (.iaload, 1) := by decide +kernel
theorem dX7_lay_79 : decode cX7_lay 79 = .ok (.iastore, 1) := by decide +kernel
theorem dX7_lay_80 : decode cX7_lay 80 = .ok (.aload_n 0, 1) := by decide +kernel
theorem dX7_lay_81 : decode cX7_lay 81 = .ok (.getfield 22, 3) := by decide +kernel
theorem dX7_lay_84 : decode cX7_lay 84 = .ok (.iload_n 1, 1) := by decide +kernel
theorem dX7_lay_85 : decode cX7_lay 85 = .ok (.aload_n 0, 1) := by decide +kernel
theorem dX7_lay_86 : decode cX7_lay 86 = .ok (.getfield 22, 3) := by decide +kernel
theorem dX7_lay_89 : decode cX7_lay 89 = .ok (.iconst 4, 1) := by decide +kernel
theorem dX7_lay_90 : decode cX7_lay 90 = .ok (.iload_n 1, 1) := by decide +kernel
theorem dX7_lay_91 : decode cX7_lay 91 = .ok (.iadd, 1) := by decide +kernel
theorem dX7_lay_92 : decode cX7_lay 92 = .ok (.iaload, 1) := by decide +kernel
theorem dX7_lay_93 : decode cX7_lay 93 = .ok (.iastore, 1) := by decide +kernel
theorem dX7_lay_94 : decode cX7_lay 94 = .ok (.iinc 1 1, 3) := by decide +kernel
theorem dX7_lay_97 : decode cX7_lay 97 = .ok (.goto (-50), 3) := by decide +kernel
theorem dX7_lay_100 : decode cX7_lay 100 = .ok (.aload_n 0, 1) := by decide +kernel
theorem dX7_lay_101 : decode cX7_lay 101 = .ok (.iconst 1, 1) := by decide +kernel
theorem dX7_lay_102 : decode cX7_lay 102 = .ok (.iconst 0, 1) := by decide +kernel
theorem dX7_lay_103 : decode cX7_lay 103 = .ok (.invokevirtual 138, 3) := by decide +kernel
theorem dX7_lay_106 : decode cX7_lay 106 = .ok (.aload_n 0, 1) := by decide +kernel
theorem dX7_lay_107 : decode cX7_lay 107 = .ok (.iconst 0, 1) := by decide +kernel
theorem dX7_lay_108 : decode cX7_lay 108 = .ok (.putfield 142, 3) := by decide +kernel
theorem dX7_lay_111 : decode cX7_lay 111 = .ok (.aload_n 0, 1) := by decide +kernel
theorem dX7_lay_112 : decode cX7_lay 112 = .ok (.iconst 0, 1) := by decide +kernel
theorem dX7_lay_113 : decode cX7_lay 113 = .ok (.putfield 145, 3) := by decide +kernel
theorem dX7_lay_116 : decode cX7_lay 116 = .ok (.aload_n 0, 1) := by decide +kernel
theorem dX7_lay_117 : decode cX7_lay 117 = .ok (.iconst 0, 1) := by decide +kernel
theorem dX7_lay_118 : decode cX7_lay 118 = .ok (.putfield 148, 3) := by decide +kernel
theorem dX7_lay_121 : decode cX7_lay 121 = .ok (.aload_n 0, 1) := by decide +kernel
theorem dX7_lay_122 : decode cX7_lay 122 = .ok (.iconst 0, 1) := by decide +kernel
theorem dX7_lay_123 : decode cX7_lay 123 = .ok (.putfield 151, 3) := by decide +kernel
theorem dX7_lay_126 : decode cX7_lay 126 = .ok (.aload_n 0, 1) := by decide +kernel
theorem dX7_lay_127 : decode cX7_lay 127 = .ok (.getfield 28, 3) := by decide +kernel
theorem dX7_lay_130 : decode cX7_lay 130 = .ok (.iconst 0, 1) := by decide +kernel
theorem dX7_lay_131 : decode cX7_lay 131 = .ok (.iaload, 1) := by decide +kernel
theorem dX7_lay_132 : decode cX7_lay 132 = .ok (.ireturn, 1) := by decide +kernel
theorem dX7_quiet_0 : decode cX7_quiet 0 = .ok (.iconst 0, 1) := by decide +kernel
theorem dX7_quiet_1 : decode cX7_quiet 1 = .ok (.istore_n 1, 1) := by decide +kernel
theorem dX7_quiet_2 : decode cX7_quiet 2 = .ok (.iload_n 1, 1) := by decide +kernel
theorem dX7_quiet_3 : decode cX7_quiet 3 = .ok (.sipush 150, 3) := by decide +kernel
theorem dX7_quiet_6 : decode cX7_quiet 6 = .ok (.if_icmp .ge 23, 3) := by decide +kernel
theorem dX7_quiet_9 : decode cX7_quiet 9 = .ok (.aload_n 0, 1) := by decide +kernel
theorem dX7_quiet_10 : decode cX7_quiet 10 = .ok (.getfield 67, 3) := by decide +kernel
theorem dX7_quiet_13 : decode cX7_quiet 13 = .ok (.iload_n 1, 1) := by decide +kernel
theorem dX7_quiet_14 : decode cX7_quiet 14 = .ok (.iconst 0, 1) := by decide +kernel
theorem dX7_quiet_15 : decode cX7_quiet 15 = .ok (.iastore, 1) := by decide +kernel
theorem dX7_quiet_16 : decode cX7_quiet 16 = .ok (.aload_n 0, 1) := by decide +kernel
theorem dX7_quiet_17 : decode cX7_quiet 17 = .ok (.getfield 70, 3) := by decide +kernel
theorem dX7_quiet_20 : decode cX7_quiet 20 = .ok (.iload_n 1, 1) := by decide +kernel
theorem dX7_quiet_21 : decode cX7_quiet 21 = .ok (.iconst 0, 1) := by decide +kernel
theorem dX7_quiet_22 : decode cX7_quiet 22 = .ok (.iastore, 1) := by decide +kernel
theorem dX7_quiet_23 : decode cX7_quiet 23 = .ok (.iinc 1 1, 3) := by decide +kernel
theorem dX7_quiet_26 : decode cX7_quiet 26 = .ok (.goto (-24), 3) := by decide +kernel
theorem dX7_quiet_29 : decode cX7_quiet 29 = .ok (.return_, 1) := by decide +kernel
theorem dX7_comes_0 : decode cX7_comes 0 = .ok (.iload_n 1, 1) := by decide +kernel
theorem dX7_comes_1 : decode cX7_comes 1 = .ok (.sipush 150, 3) := by decide +kernel
theorem dX7_comes_4 : decode cX7_comes 4 = .ok (.if_icmp .ge 56, 3) := by decide +kernel
theorem dX7_comes_7 : decode cX7_comes 7 = .ok (.iload_n 3, 1) := by decide +kernel
theorem dX7_comes_8 : decode cX7_comes 8 = .ok (.ifCond .le 52, 3) := by decide +kernel
theorem dX7_comes_11 : decode cX7_comes 11 = .ok (.iload_n 3, 1) := by decide +kernel
theorem dX7_comes_12 : decode cX7_comes 12 = .ok (.aload_n 0, 1) := by decide +kernel
theorem dX7_comes_13 : decode cX7_comes 13 = .ok (.getfield 67, 3) := by decide +kernel
theorem dX7_comes_16 : decode cX7_comes 16 = .ok (.iload_n 1, 1) := by decide +kernel
theorem dX7_comes_17 : decode cX7_comes 17 = .ok (.iaload, 1) := by decide +kernel
theorem dX7_comes_18 : decode cX7_comes 18 = .ok (.if_icmp .lt 42, 3) := by decide +kernel
theorem dX7_comes_21 : decode cX7_comes 21 = .ok (.aload_n 0, 1) := by decide +kernel
theorem dX7_comes_22 : decode cX7_comes 22 = .ok (.getfield 70, 3) := by decide +kernel
theorem dX7_comes_25 : decode cX7_comes 25 = .ok (.iload_n 1, 1) := by decide +kernel
theorem dX7_comes_26 : decode cX7_comes 26 = .ok (.iload_n 3, 1) := by decide +kernel
theorem dX7_comes_27 : decode cX7_comes 27 = .ok (.aload_n 0, 1) := by decide +kernel
theorem dX7_comes_28 : decode cX7_comes 28 = .ok (.getfield 67, 3) := by decide +kernel
theorem dX7_comes_31 : decode cX7_comes 31 = .ok (.iload_n 1, 1) := by decide +kernel
theorem dX7_comes_32 : decode cX7_comes 32 = .ok (.iaload, 1) := by decide +kernel
theorem dX7_comes_33 : decode cX7_comes 33 = .ok (.if_icmp .gt 13, 3) := by decide +kernel
theorem dX7_comes_36 : decode cX7_comes 36 = .ok (.aload_n 0, 1) := by decide +kernel
theorem dX7_comes_37 : decode cX7_comes 37 = .ok (.getfield 70, 3) := by decide +kernel
theorem dX7_comes_40 : decode cX7_comes 40 = .ok (.iload_n 1, 1) := by decide +kernel
theorem dX7_comes_41 : decode cX7_comes 41 = .ok (.iaload, 1) := by decide +kernel
theorem dX7_comes_42 : decode cX7_comes 42 = .ok (.iload_n 2, 1) := by decide +kernel
theorem dX7_comes_43 : decode cX7_comes 43 = .ok (.if_icmp .ne 7, 3) := by decide +kernel
theorem dX7_comes_46 : decode cX7_comes 46 = .ok (.iload_n 2, 1) := by decide +kernel
theorem dX7_comes_47 : decode cX7_comes 47 = .ok (.goto 5, 3) := by decide +kernel
theorem dX7_comes_50 : decode cX7_comes 50 = .ok (.bipush 8, 2) := by decide +kernel
theorem dX7_comes_52 : decode cX7_comes 52 = .ok (.iastore, 1) := by decide +kernel
theorem dX7_comes_53 : decode cX7_comes 53 = .ok (.aload_n 0, 1) := by decide +kernel
theorem dX7_comes_54 : decode cX7_comes 54 = .ok (.getfield 67, 3) := by decide +kernel
theorem dX7_comes_57 : decode cX7_comes 57 = .ok (.iload_n 1, 1) := by decide +kernel
theorem dX7_comes_58 : decode cX7_comes 58 = .ok (.iload_n 3, 1) := by decide +kernel
theorem dX7_comes_59 : decode cX7_comes 59 = .ok (.iastore, 1) := by decide +kernel
theorem dX7_comes_60 : decode cX7_comes 60 = .ok (.return_, 1) := by decide +kernel
theorem dX7_away_0 : decode cX7_away 0 = .ok (.iload_n 0, 1) := by decide +kernel
theorem dX7_away_1 : decode cX7_away 1 = .ok (.iload_n 1, 1) := by decide +kernel
theorem dX7_away_2 : decode cX7_away 2 = .ok (.if_icmp .ge 9, 3) := by decide +kernel
theorem dX7_away_5 : decode cX7_away 5 = .ok (.iload_n 1, 1) := by decide +kernel
theorem dX7_away_6 : decode cX7_away 6 = .ok (.iload_n 0, 1) := by decide +kernel
theorem dX7_away_7 : decode cX7_away 7 = .ok (.isub, 1) := by decide +kernel
theorem dX7_away_8 : decode cX7_away 8 = .ok (.goto 6, 3) := by decide +kernel
theorem dX7_away_11 : decode cX7_away 11 = .ok (.iload_n 0, 1) := by decide +kernel
theorem dX7_away_12 : decode cX7_away 12 = .ok (.iload_n 1, 1) := by decide +kernel
theorem dX7_away_13 : decode cX7_away 13 = .ok (.isub, 1) := by decide +kernel
theorem dX7_away_14 : decode cX7_away 14 = .ok (.ireturn, 1) := by decide +kernel
set_option maxRecDepth 20000 in
theorem ggX7_faceFar_X7_away : GoodIn wsX7_faceFar wsX7_away := goodIn_r _ [5] (by decide +kernel) (by decide +kernel)
set_option maxRecDepth 20000 in
theorem gX7_faceFar_X7_away : GoodIn wsX7_faceFar (va_wsS RX7 154 yX7_away wsX7_away) := goodIn_app (goodIn_of _ (by decide +kernel)) ggX7_faceFar_X7_away
theorem dX7_faceFar_0 : decode cX7_faceFar 0 = .ok (.iload_n 2, 1) := by decide +kernel
theorem dX7_faceFar_1 : decode cX7_faceFar 1 = .ok (.aload_n 0, 1) := by decide +kernel
theorem dX7_faceFar_2 : decode cX7_faceFar 2 = .ok (.getfield 16, 3) := by decide +kernel
theorem dX7_faceFar_5 : decode cX7_faceFar 5 = .ok (.iload_n 1, 1) := by decide +kernel
theorem dX7_faceFar_6 : decode cX7_faceFar 6 = .ok (.iaload, 1) := by decide +kernel
theorem dX7_faceFar_7 : decode cX7_faceFar 7 = .ok (.invokestatic 154, 3) := by decide +kernel
theorem dX7_faceFar_10 : decode cX7_faceFar 10 = .ok (.aload_n 0, 1) := by decide +kernel
theorem dX7_faceFar_11 : decode cX7_faceFar 11 = .ok (.getfield 16, 3) := by decide +kernel
theorem dX7_faceFar_14 : decode cX7_faceFar 14 = .ok (.iload_n 1, 1) := by decide +kernel
theorem dX7_faceFar_15 : decode cX7_faceFar 15 = .ok (.iaload, 1) := by decide +kernel
theorem dX7_faceFar_16 : decode cX7_faceFar 16 = .ok (.iload_n 3, 1) := by decide +kernel
theorem dX7_faceFar_17 : decode cX7_faceFar 17 = .ok (.invokestatic 154, 3) := by decide +kernel
theorem dX7_faceFar_20 : decode cX7_faceFar 20 = .ok (.iadd, 1) := by decide +kernel
theorem dX7_faceFar_21 : decode cX7_faceFar 21 = .ok (.ireturn, 1) := by decide +kernel
theorem dX7_faceLoud_0 : decode cX7_faceLoud 0 = .ok (.iload_n 3, 1) := by decide +kernel
theorem dX7_faceLoud_1 : decode cX7_faceLoud 1 = .ok (.aload_n 0, 1) := by decide +kernel
theorem dX7_faceLoud_2 : decode cX7_faceLoud 2 = .ok (.getfield 25, 3) := by decide +kernel
theorem dX7_faceLoud_5 : decode cX7_faceLoud 5 = .ok (.iconst 0, 1) := by decide +kernel
theorem dX7_faceLoud_6 : decode cX7_faceLoud 6 = .ok (.iaload, 1) := by decide +kernel
theorem dX7_faceLoud_7 : decode cX7_faceLoud 7 = .ok (.iload_n 2, 1) := by decide +kernel
theorem dX7_faceLoud_8 : decode cX7_faceLoud 8 = .ok (.imul, 1) := by decide +kernel
theorem dX7_faceLoud_9 : decode cX7_faceLoud 9 = .ok (.isub, 1) := by decide +kernel
theorem dX7_faceLoud_10 : decode cX7_faceLoud 10 = .ok (.aload_n 0, 1) := by decide +kernel
theorem dX7_faceLoud_11 : decode cX7_faceLoud 11 = .ok (.getfield 22, 3) := by decide +kernel
theorem dX7_faceLoud_14 : decode cX7_faceLoud 14 = .ok (.iload_n 1, 1) := by decide +kernel
theorem dX7_faceLoud_15 : decode cX7_faceLoud 15 = .ok (.iaload, 1) := by decide +kernel
theorem dX7_faceLoud_16 : decode cX7_faceLoud 16 = .ok (.iconst 1, 1) := by decide +kernel
theorem dX7_faceLoud_17 : decode cX7_faceLoud 17 = .ok (.if_icmp .ne 7, 3) := by decide +kernel
theorem dX7_faceLoud_20 : decode cX7_faceLoud 20 = .ok (.iconst 2, 1) := by decide +kernel
theorem dX7_faceLoud_21 : decode cX7_faceLoud 21 = .ok (.goto 4, 3) := by decide +kernel
theorem dX7_faceLoud_24 : decode cX7_faceLoud 24 = .ok (.iconst 1, 1) := by decide +kernel
theorem dX7_faceLoud_25 : decode cX7_faceLoud 25 = .ok (.aload_n 0, 1) := by decide +kernel
theorem dX7_faceLoud_26 : decode cX7_faceLoud 26 = .ok (.getfield 19, 3) := by decide +kernel
theorem dX7_faceLoud_29 : decode cX7_faceLoud 29 = .ok (.iload_n 1, 1) := by decide +kernel
theorem dX7_faceLoud_30 : decode cX7_faceLoud 30 = .ok (.iaload, 1) := by decide +kernel
theorem dX7_faceLoud_31 : decode cX7_faceLoud 31 = .ok (.imul, 1) := by decide +kernel
theorem dX7_faceLoud_32 : decode cX7_faceLoud 32 = .ok (.isub, 1) := by decide +kernel
theorem dX7_faceLoud_33 : decode cX7_faceLoud 33 = .ok (.ireturn, 1) := by decide +kernel
set_option maxRecDepth 20000 in
theorem ggX7_say1_X7_away : GoodIn wsX7_say1 wsX7_away := goodIn_r _ [8] (by decide +kernel) (by decide +kernel)
set_option maxRecDepth 20000 in
theorem gX7_say1_X7_away : GoodIn wsX7_say1 (va_wsS RX7 154 yX7_away wsX7_away) := goodIn_app (goodIn_of _ (by decide +kernel)) ggX7_say1_X7_away
set_option maxRecDepth 20000 in
theorem ggX7_say1_X7_comes : GoodIn wsX7_say1 wsX7_comes := goodIn_r _ [12, 13, 14, 28, 29, 30, 31, 32, 33, 34, 35, 36, 37, 38, 39, 40, 41, 42, 43, 44, 45, 46, 47, 48, 49, 50, 51, 52, 53, 54, 55] (by decide +kernel) (by decide +kernel)
set_option maxRecDepth 20000 in
theorem gX7_say1_X7_comes : GoodIn wsX7_say1 (wsV RX7 158 RX7 yX7_comes wsX7_comes) := goodIn_app (goodIn_of _ (by decide +kernel)) ggX7_say1_X7_comes
set_option maxRecDepth 20000 in
theorem ggX7_say1_X7_has : GoodIn wsX7_say1 wsX7_has := goodIn_r _ [17] (by decide +kernel) (by decide +kernel)
set_option maxRecDepth 20000 in
theorem gX7_say1_X7_has : GoodIn wsX7_say1 (va_wsS RX7 162 yX7_has wsX7_has) := goodIn_app (goodIn_of _ (by decide +kernel)) ggX7_say1_X7_has
set_option maxRecDepth 20000 in
theorem ggX7_say1_X7_faceFar : GoodIn wsX7_say1 wsX7_faceFar := goodIn_r _ [21, 22, 5, 6, 7, 8, 28, 29, 30, 31, 32, 33, 34, 35, 36, 37, 38, 39, 40, 41, 42, 43, 44, 45, 46, 47, 48, 49, 50, 51, 52, 53, 54, 55] (by decide +kernel) (by decide +kernel)
set_option maxRecDepth 20000 in
theorem gX7_say1_X7_faceFar : GoodIn wsX7_say1 (wsV RX7 166 RX7 yX7_faceFar wsX7_faceFar) := goodIn_app (goodIn_of _ (by decide +kernel)) ggX7_say1_X7_faceFar
set_option maxRecDepth 20000 in
theorem ggX7_say1_X7_faceLoud : GoodIn wsX7_say1 wsX7_faceLoud := goodIn_r _ [26, 1, 4, 27, 28, 29, 30, 31, 32, 33, 34, 35, 36, 37, 38, 39, 40, 41, 42, 43, 44, 45, 46, 47, 48, 49, 50, 51, 52, 53, 54, 55] (by decide +kernel) (by decide +kernel)
set_option maxRecDepth 20000 in
theorem gX7_say1_X7_faceLoud : GoodIn wsX7_say1 (wsV RX7 170 RX7 yX7_faceLoud wsX7_faceLoud) := goodIn_app (goodIn_of _ (by decide +kernel)) ggX7_say1_X7_faceLoud
theorem dX7_say1_0 : decode cX7_say1 0 = .ok (.iload_n 1, 1) := by decide +kernel
theorem dX7_say1_1 : decode cX7_say1 1 = .ok (.iload 5, 2) := by decide +kernel
theorem dX7_say1_3 : decode cX7_say1 3 = .ok (.invokestatic 154, 3) := by decide +kernel
theorem dX7_say1_6 : decode cX7_say1 6 = .ok (.istore 6, 2) := by decide +kernel
theorem dX7_say1_8 : decode cX7_say1 8 = .ok (.aload_n 0, 1) := by decide +kernel
theorem dX7_say1_9 : decode cX7_say1 9 = .ok (.iload_n 2, 1) := by decide +kernel
theorem dX7_say1_10 : decode cX7_say1 10 = .ok (.iload 6, 2) := by decide +kernel
theorem dX7_say1_12 : decode cX7_say1 12 = .ok (.iadd, 1) := by decide +kernel
theorem dX7_say1_13 : decode cX7_say1 13 = .ok (.iload_n 3, 1) := by decide +kernel
theorem dX7_say1_14 : decode cX7_say1 14 = .ok (.iload 4, 2) := by decide +kernel
theorem dX7_say1_16 : decode cX7_say1 16 = .ok (.aload_n 0, 1) := by decide +kernel
theorem dX7_say1_17 : decode cX7_say1 17 = .ok (.getfield 25, 3) := by decide +kernel
theorem dX7_say1_20 : decode cX7_say1 20 = .ok (.iconst 0, 1) := by decide +kernel
theorem dX7_say1_21 : decode cX7_say1 21 = .ok (.iaload, 1) := by decide +kernel
theorem dX7_say1_22 : decode cX7_say1 22 = .ok (.iload 6, 2) := by decide +kernel
theorem dX7_say1_24 : decode cX7_say1 24 = .ok (.imul, 1) := by decide +kernel
theorem dX7_say1_25 : decode cX7_say1 25 = .ok (.isub, 1) := by decide +kernel
theorem dX7_say1_26 : decode cX7_say1 26 = .ok (.invokevirtual 158, 3) := by decide +kernel
theorem dX7_say1_29 : decode cX7_say1 29 = .ok (.iconst 0, 1) := by decide +kernel
theorem dX7_say1_30 : decode cX7_say1 30 = .ok (.istore 7, 2) := by decide +kernel
theorem dX7_say1_32 : decode cX7_say1 32 = .ok (.iload 7, 2) := by decide +kernel
theorem dX7_say1_34 : decode cX7_say1 34 = .ok (.aload_n 0, 1) := by decide +kernel
theorem dX7_say1_35 : decode cX7_say1 35 = .ok (.getfield 13, 3) := by decide +kernel
theorem dX7_say1_38 : decode cX7_say1 38 = .ok (.iconst 0, 1) := by decide +kernel
theorem dX7_say1_39 : decode cX7_say1 39 = .ok (.iaload, 1) := by decide +kernel
theorem dX7_say1_40 : decode cX7_say1 40 = .ok (.if_icmp .ge 102, 3) := by decide +kernel
theorem dX7_say1_43 : decode cX7_say1 43 = .ok (.aload_n 0, 1) := by decide +kernel
theorem dX7_say1_44 : decode cX7_say1 44 = .ok (.getfield 46, 3) := by decide +kernel
theorem dX7_say1_47 : decode cX7_say1 47 = .ok (.iconst 0, 1) := by decide +kernel
theorem dX7_say1_48 : decode cX7_say1 48 = .ok (.iaload, 1) := by decide +kernel
theorem dX7_say1_49 : decode cX7_say1 49 = .ok (.iload 7, 2) := by decide +kernel
theorem dX7_say1_51 : decode cX7_say1 51 = .ok (.invokestatic 162, 3) := by decide +kernel
theorem dX7_say1_54 : decode cX7_say1 54 = .ok (.ifCond .ne 82, 3) := by decide +kernel
theorem dX7_say1_57 : decode cX7_say1 57 = .ok (.aload_n 0, 1) := by decide +kernel
theorem dX7_say1_58 : decode cX7_say1 58 = .ok (.iload 7, 2) := by decide +kernel
theorem dX7_say1_60 : decode cX7_say1 60 = .ok (.iload_n 1, 1) := by decide +kernel
theorem dX7_say1_61 : decode cX7_say1 61 = .ok (.iload 5, 2) := by decide +kernel
theorem dX7_say1_63 : decode cX7_say1 63 = .ok (.invokevirtual 166, 3) := by decide +kernel
theorem dX7_say1_66 : decode cX7_say1 66 = .ok (.istore 8, 2) := by decide +kernel
theorem dX7_say1_68 : decode cX7_say1 68 = .ok (.aload_n 0, 1) := by decide +kernel
theorem dX7_say1_69 : decode cX7_say1 69 = .ok (.iload 7, 2) := by decide +kernel
theorem dX7_say1_71 : decode cX7_say1 71 = .ok (.iload 8, 2) := by decide +kernel
theorem dX7_say1_73 : decode cX7_say1 73 = .ok (.iload 4, 2) := by decide +kernel
theorem dX7_say1_75 : decode cX7_say1 75 = .ok (.invokevirtual 170, 3) := by decide +kernel
theorem dX7_say1_78 : decode cX7_say1 78 = .ok (.istore 9, 2) := by decide +kernel
theorem dX7_say1_80 : decode cX7_say1 80 = .ok (.iload_n 2, 1) := by decide +kernel
theorem dX7_say1_81 : decode cX7_say1 81 = .ok (.iload 8, 2) := by decide +kernel
theorem dX7_say1_83 : decode cX7_say1 83 = .ok (.iadd, 1) := by decide +kernel
theorem dX7_say1_84 : decode cX7_say1 84 = .ok (.aload_n 0, 1) := by decide +kernel
theorem dX7_say1_85 : decode cX7_say1 85 = .ok (.getfield 22, 3) := by decide +kernel
theorem dX7_say1_88 : decode cX7_say1 88 = .ok (.iload 7, 2) := by decide +kernel
theorem dX7_say1_90 : decode cX7_say1 90 = .ok (.iaload, 1) := by decide +kernel
theorem dX7_say1_91 : decode cX7_say1 91 = .ok (.iconst 2, 1) := by decide +kernel
theorem dX7_say1_92 : decode cX7_say1 92 = .ok (.if_icmp .ne 7, 3) := by decide +kernel
theorem dX7_say1_95 : decode cX7_say1 95 = .ok (.iconst 2, 1) := by decide +kernel
theorem dX7_say1_96 : decode cX7_say1 96 = .ok (.goto 4, 3) := by decide +kernel
theorem dX7_say1_99 : decode cX7_say1 99 = .ok (.iconst 0, 1) := by decide +kernel
theorem dX7_say1_100 : decode cX7_say1 100 = .ok (.iadd, 1) := by decide +kernel
theorem dX7_say1_101 : decode cX7_say1 101 = .ok (.istore 10, 2) := by decide +kernel
theorem dX7_say1_103 : decode cX7_say1 103 = .ok (.aload_n 0, 1) := by decide +kernel
theorem dX7_say1_104 : decode cX7_say1 104 = .ok (.iload 10, 2) := by decide +kernel
theorem dX7_say1_106 : decode cX7_say1 106 = .ok (.iload_n 3, 1) := by decide +kernel
theorem dX7_say1_107 : decode cX7_say1 107 = .ok (.iload 9, 2) := by decide +kernel
theorem dX7_say1_109 : decode cX7_say1 109 = .ok (.invokevirtual 158, 3) := by decide +kernel
theorem dX7_say1_112 : decode cX7_say1 112 = .ok (.aload_n 0, 1) := by decide +kernel
theorem dX7_say1_113 : decode cX7_say1 113 = .ok (.getfield 22, 3) := by decide +kernel
theorem dX7_say1_116 : decode cX7_say1 116 = .ok (.iload 7, 2) := by decide +kernel
theorem dX7_say1_118 : decode cX7_say1 118 = .ok (.iaload, 1) := by decide +kernel
theorem dX7_say1_119 : decode cX7_say1 119 = .ok (.iconst 3, 1) := by decide +kernel
theorem dX7_say1_120 : decode cX7_say1 120 = .ok (.if_icmp .ne 16, 3) := by decide +kernel
theorem dX7_say1_123 : decode cX7_say1 123 = .ok (.aload_n 0, 1) := by decide +kernel
theorem dX7_say1_124 : decode cX7_say1 124 = .ok (.iload 10, 2) := by decide +kernel
theorem dX7_say1_126 : decode cX7_say1 126 = .ok (.iconst 4, 1) := by decide +kernel
theorem dX7_say1_127 : decode cX7_say1 127 = .ok (.iadd, 1) := by decide +kernel
theorem dX7_say1_128 : decode cX7_say1 128 = .ok (.iload_n 3, 1) := by decide +kernel
theorem dX7_say1_129 : decode cX7_say1 129 = .ok (.iload 9, 2) := by decide +kernel
theorem dX7_say1_131 : decode cX7_say1 131 = .ok (.iconst 3, 1) := by decide +kernel
theorem dX7_say1_132 : decode cX7_say1 132 = .ok (.isub, 1) := by decide +kernel
theorem dX7_say1_133 : decode cX7_say1 133 = .ok (.invokevirtual 158, 3) := by decide +kernel
theorem dX7_say1_136 : decode cX7_say1 136 = .ok (.iinc 7 1, 3) := by decide +kernel
theorem dX7_say1_139 : decode cX7_say1 139 = .ok (.goto (-107), 3) := by decide +kernel
theorem dX7_say1_142 : decode cX7_say1 142 = .ok (.return_, 1) := by decide +kernel
set_option maxRecDepth 20000 in
theorem ggX7_sayAll_X7_quiet : GoodIn wsX7_sayAll wsX7_quiet := goodIn_r _ [9, 10, 11, 40, 41, 42, 43, 44, 45, 46, 47, 48, 49, 50, 51, 52, 53, 54, 55, 56, 57, 58, 59, 60, 61, 62, 63, 64, 65, 66, 67] (by decide +kernel) (by decide +kernel)
set_option maxRecDepth 20000 in
theorem gX7_sayAll_X7_quiet : GoodIn wsX7_sayAll (wsV RX7 173 RX7 yX7_quiet wsX7_quiet) := goodIn_app (goodIn_of _ (by decide +kernel)) ggX7_sayAll_X7_quiet
set_option maxRecDepth 20000 in
theorem ggX7_sayAll_X7_has : GoodIn wsX7_sayAll wsX7_has := goodIn_r _ [14] (by decide +kernel) (by decide +kernel)
set_option maxRecDepth 20000 in
theorem gX7_sayAll_X7_has : GoodIn wsX7_sayAll (va_wsS RX7 162 yX7_has wsX7_has) := goodIn_app (goodIn_of _ (by decide +kernel)) ggX7_sayAll_X7_has
set_option maxRecDepth 20000 in
theorem ggX7_sayAll_X7_say1 : GoodIn wsX7_sayAll wsX7_say1 := goodIn_r _ [18, 19, 20, 21, 22, 23, 24, 8, 25, 26, 27, 28, 29, 10, 11, 12, 13, 14, 30, 31, 32, 33, 34, 35, 36, 37, 38, 39, 40, 41, 42, 43, 44, 45, 46, 47, 48, 49, 50, 51, 52, 53, 54, 55, 56, 57, 58, 59, 60, 61, 62, 63, 64, 65, 66, 67] (by decide +kernel) (by decide +kernel)
set_option maxRecDepth 20000 in
theorem gX7_sayAll_X7_say1 : GoodIn wsX7_sayAll (wsV RX7 176 RX7 yX7_say1 wsX7_say1) := goodIn_app (goodIn_of _ (by decide +kernel)) ggX7_sayAll_X7_say1
theorem dX7_sayAll_0 : decode cX7_sayAll 0 = .ok (.aload_n 0, 1) := by decide +kernel
theorem dX7_sayAll_1 : decode cX7_sayAll 1 = .ok (.invokevirtual 173, 3) := by decide +kernel
theorem dX7_sayAll_4 : decode cX7_sayAll 4 = .ok (.iconst 0, 1) := by decide +kernel
theorem dX7_sayAll_5 : decode cX7_sayAll 5 = .ok (.istore 4, 2) := by decide +kernel
theorem dX7_sayAll_7 : decode cX7_sayAll 7 = .ok (.iload 4, 2) := by decide +kernel
theorem dX7_sayAll_9 : decode cX7_sayAll 9 = .ok (.aload_n 0, 1) := by decide +kernel
theorem dX7_sayAll_10 : decode cX7_sayAll 10 = .ok (.getfield 28, 3) := by decide +kernel
theorem dX7_sayAll_13 : decode cX7_sayAll 13 = .ok (.iconst 0, 1) := by decide +kernel
theorem dX7_sayAll_14 : decode cX7_sayAll 14 = .ok (.iaload, 1) := by decide +kernel
theorem dX7_sayAll_15 : decode cX7_sayAll 15 = .ok (.if_icmp .ge 45, 3) := by decide +kernel
theorem dX7_sayAll_18 : decode cX7_sayAll 18 = .ok (.iload_n 3, 1) := by decide +kernel
theorem dX7_sayAll_19 : decode cX7_sayAll 19 = .ok (.iload 4, 2) := by decide +kernel
theorem dX7_sayAll_21 : decode cX7_sayAll 21 = .ok (.invokestatic 162, 3) := by decide +kernel
theorem dX7_sayAll_24 : decode cX7_sayAll 24 = .ok (.ifCond .ne 30, 3) := by decide +kernel
theorem dX7_sayAll_27 : decode cX7_sayAll 27 = .ok (.aload_n 0, 1) := by decide +kernel
theorem dX7_sayAll_28 : decode cX7_sayAll 28 = .ok (.iload_n 1, 1) := by decide +kernel
theorem dX7_sayAll_29 : decode cX7_sayAll 29 = .ok (.aload_n 0, 1) := by decide +kernel
theorem dX7_sayAll_30 : decode cX7_sayAll 30 = .ok (.getfield 31, 3) := by decide +kernel
theorem dX7_sayAll_33 : decode cX7_sayAll 33 = .ok (.iload 4, 2) := by decide +kernel
theorem dX7_sayAll_35 : decode cX7_sayAll 35 = .ok (.iaload, 1) := by decide +kernel
theorem dX7_sayAll_36 : decode cX7_sayAll 36 = .ok (.aload_n 0, 1) := by decide +kernel
theorem dX7_sayAll_37 : decode cX7_sayAll 37 = .ok (.getfield 34, 3) := by decide +kernel
theorem dX7_sayAll_40 : decode cX7_sayAll 40 = .ok (.iload 4, 2) := by decide +kernel
theorem dX7_sayAll_42 : decode cX7_sayAll 42 = .ok (.iaload, 1) := by decide +kernel
theorem dX7_sayAll_43 : decode cX7_sayAll 43 = .ok (.aload_n 0, 1) := by decide +kernel
theorem dX7_sayAll_44 : decode cX7_sayAll 44 = .ok (.getfield 37, 3) := by decide +kernel
theorem dX7_sayAll_47 : decode cX7_sayAll 47 = .ok (.iload 4, 2) := by decide +kernel
theorem dX7_sayAll_49 : decode cX7_sayAll 49 = .ok (.iaload, 1) := by decide +kernel
theorem dX7_sayAll_50 : decode cX7_sayAll 50 = .ok (.iload_n 2, 1) := by decide +kernel
theorem dX7_sayAll_51 : decode cX7_sayAll 51 = .ok (.invokevirtual 176, 3) := by decide +kernel
theorem dX7_sayAll_54 : decode cX7_sayAll 54 = .ok (.iinc 4 1, 3) := by decide +kernel
theorem dX7_sayAll_57 : decode cX7_sayAll 57 = .ok (.goto (-50), 3) := by decide +kernel
theorem dX7_sayAll_60 : decode cX7_sayAll 60 = .ok (.return_, 1) := by decide +kernel
set_option maxRecDepth 20000 in
theorem ggX7_isClear_X7_away : GoodIn wsX7_isClear wsX7_away := goodIn_r _ [9] (by decide +kernel) (by decide +kernel)
set_option maxRecDepth 20000 in
theorem gX7_isClear_X7_away : GoodIn wsX7_isClear (va_wsS RX7 154 yX7_away wsX7_away) := goodIn_app (goodIn_of _ (by decide +kernel)) ggX7_isClear_X7_away
theorem dX7_isClear_0 : decode cX7_isClear 0 = .ok (.iload_n 2, 1) := by decide +kernel
theorem dX7_isClear_1 : decode cX7_isClear 1 = .ok (.iload_n 3, 1) := by decide +kernel
theorem dX7_isClear_2 : decode cX7_isClear 2 = .ok (.invokestatic 154, 3) := by decide +kernel
theorem dX7_isClear_5 : decode cX7_isClear 5 = .ok (.istore 5, 2) := by decide +kernel
theorem dX7_isClear_7 : decode cX7_isClear 7 = .ok (.aload_n 0, 1) := by decide +kernel
theorem dX7_isClear_8 : decode cX7_isClear 8 = .ok (.getfield 31, 3) := by decide +kernel
theorem dX7_isClear_11 : decode cX7_isClear 11 = .ok (.iload_n 1, 1) := by decide +kernel
theorem dX7_isClear_12 : decode cX7_isClear 12 = .ok (.iaload, 1) := by decide +kernel
theorem dX7_isClear_13 : decode cX7_isClear 13 = .ok (.iload 5, 2) := by decide +kernel
theorem dX7_isClear_15 : decode cX7_isClear 15 = .ok (.iadd, 1) := by decide +kernel
theorem dX7_isClear_16 : decode cX7_isClear 16 = .ok (.iload 4, 2) := by decide +kernel
theorem dX7_isClear_18 : decode cX7_isClear 18 = .ok (.iadd, 1) := by decide +kernel
theorem dX7_isClear_19 : decode cX7_isClear 19 = .ok (.istore 6, 2) := by decide +kernel
theorem dX7_isClear_21 : decode cX7_isClear 21 = .ok (.aload_n 0, 1) := by decide +kernel
theorem dX7_isClear_22 : decode cX7_isClear 22 = .ok (.getfield 37, 3) := by decide +kernel
theorem dX7_isClear_25 : decode cX7_isClear 25 = .ok (.iload_n 1, 1) := by decide +kernel
theorem dX7_isClear_26 : decode cX7_isClear 26 = .ok (.iaload, 1) := by decide +kernel
theorem dX7_isClear_27 : decode cX7_isClear 27 = .ok (.aload_n 0, 1) := by decide +kernel
theorem dX7_isClear_28 : decode cX7_isClear 28 = .ok (.getfield 25, 3) := by decide +kernel
theorem dX7_isClear_31 : decode cX7_isClear 31 = .ok (.iconst 0, 1) := by decide +kernel
theorem dX7_isClear_32 : decode cX7_isClear 32 = .ok (.iaload, 1) := by decide +kernel
theorem dX7_isClear_33 : decode cX7_isClear 33 = .ok (.iload 5, 2) := by decide +kernel
theorem dX7_isClear_35 : decode cX7_isClear 35 = .ok (.imul, 1) := by decide +kernel
theorem dX7_isClear_36 : decode cX7_isClear 36 = .ok (.isub, 1) := by decide +kernel
theorem dX7_isClear_37 : decode cX7_isClear 37 = .ok (.ifCond .le 23, 3) := by decide +kernel
theorem dX7_isClear_40 : decode cX7_isClear 40 = .ok (.aload_n 0, 1) := by decide +kernel
theorem dX7_isClear_41 : decode cX7_isClear 41 = .ok (.getfield 70, 3) := by decide +kernel
theorem dX7_isClear_44 : decode cX7_isClear 44 = .ok (.iload 6, 2) := by decide +kernel
theorem dX7_isClear_46 : decode cX7_isClear 46 = .ok (.iaload, 1) := by decide +kernel
theorem dX7_isClear_47 : decode cX7_isClear 47 = .ok (.aload_n 0, 1) := by decide +kernel
theorem dX7_isClear_48 : decode cX7_isClear 48 = .ok (.getfield 34, 3) := by decide +kernel
theorem dX7_isClear_51 : decode cX7_isClear 51 = .ok (.iload_n 1, 1) := by decide +kernel
theorem dX7_isClear_52 : decode cX7_isClear 52 = .ok (.iaload, 1) := by decide +kernel
theorem dX7_isClear_53 : decode cX7_isClear 53 = .ok (.if_icmp .ne 7, 3) := by decide +kernel
theorem dX7_isClear_56 : decode cX7_isClear 56 = .ok (.iconst 1, 1) := by decide +kernel
theorem dX7_isClear_57 : decode cX7_isClear 57 = .ok (.goto 4, 3) := by decide +kernel
theorem dX7_isClear_60 : decode cX7_isClear 60 = .ok (.iconst 0, 1) := by decide +kernel
theorem dX7_isClear_61 : decode cX7_isClear 61 = .ok (.ireturn, 1) := by decide +kernel
set_option maxRecDepth 20000 in
theorem ggX7_clearOf_X7_isClear : GoodIn wsX7_clearOf wsX7_isClear := goodIn_r _ [6, 7, 8, 9, 10, 11, 12, 13, 5, 14, 15, 16, 17, 18, 19, 20, 21, 22, 23, 24, 25, 26, 27, 28, 29, 30, 31, 32, 33, 34, 35, 36, 37, 38, 39, 40, 41, 42] (by decide +kernel) (by decide +kernel)
set_option maxRecDepth 20000 in
theorem gX7_clearOf_X7_isClear : GoodIn wsX7_clearOf (wsV RX7 180 RX7 yX7_isClear wsX7_isClear) := goodIn_app (goodIn_of _ (by decide +kernel)) ggX7_clearOf_X7_isClear
theorem dX7_clearOf_0 : decode cX7_clearOf 0 = .ok (.iconst 0, 1) := by decide +kernel
theorem dX7_clearOf_1 : decode cX7_clearOf 1 = .ok (.istore_n 3, 1) := by decide +kernel
theorem dX7_clearOf_2 : decode cX7_clearOf 2 = .ok (.iconst 0, 1) := by decide +kernel
theorem dX7_clearOf_3 : decode cX7_clearOf 3 = .ok (.istore 4, 2) := by decide +kernel
theorem dX7_clearOf_5 : decode cX7_clearOf 5 = .ok (.iload 4, 2) := by decide +kernel
theorem dX7_clearOf_7 : decode cX7_clearOf 7 = .ok (.aload_n 0, 1) := by decide +kernel
theorem dX7_clearOf_8 : decode cX7_clearOf 8 = .ok (.getfield 28, 3) := by decide +kernel
theorem dX7_clearOf_11 : decode cX7_clearOf 11 = .ok (.iconst 0, 1) := by decide +kernel
theorem dX7_clearOf_12 : decode cX7_clearOf 12 = .ok (.iaload, 1) := by decide +kernel
theorem dX7_clearOf_13 : decode cX7_clearOf 13 = .ok (.if_icmp .ge 32, 3) := by decide +kernel
theorem dX7_clearOf_16 : decode cX7_clearOf 16 = .ok (.iload_n 3, 1) := by decide +kernel
theorem dX7_clearOf_17 : decode cX7_clearOf 17 = .ok (.aload_n 0, 1) := by decide +kernel
theorem dX7_clearOf_18 : decode cX7_clearOf 18 = .ok (.iload 4, 2) := by decide +kernel
theorem dX7_clearOf_20 : decode cX7_clearOf 20 = .ok (.iload_n 1, 1) := by decide +kernel
theorem dX7_clearOf_21 : decode cX7_clearOf 21 = .ok (.iload_n 2, 1) := by decide +kernel
theorem dX7_clearOf_22 : decode cX7_clearOf 22 = .ok (.iconst 0, 1) := by decide +kernel
theorem dX7_clearOf_23 : decode cX7_clearOf 23 = .ok (.invokevirtual 180, 3) := by decide +kernel
theorem dX7_clearOf_26 : decode cX7_clearOf 26 = .ok (.ifCond .eq 10, 3) := by decide +kernel
theorem dX7_clearOf_29 : decode cX7_clearOf 29 = .ok (.iconst 1, 1) := by decide +kernel
theorem dX7_clearOf_30 : decode cX7_clearOf 30 = .ok (.iload 4, 2) := by decide +kernel
theorem dX7_clearOf_32 : decode cX7_clearOf 32 = .ok (.ishl, 1) := by decide +kernel
theorem dX7_clearOf_33 : decode cX7_clearOf 33 = .ok (.goto 4, 3) := by decide +kernel
theorem dX7_clearOf_36 : decode cX7_clearOf 36 = .ok (.iconst 0, 1) := by decide +kernel
theorem dX7_clearOf_37 : decode cX7_clearOf 37 = .ok (.ior, 1) := by decide +kernel
theorem dX7_clearOf_38 : decode cX7_clearOf 38 = .ok (.istore_n 3, 1) := by decide +kernel
theorem dX7_clearOf_39 : decode cX7_clearOf 39 = .ok (.iinc 4 1, 3) := by decide +kernel
theorem dX7_clearOf_42 : decode cX7_clearOf 42 = .ok (.goto (-37), 3) := by decide +kernel
theorem dX7_clearOf_45 : decode cX7_clearOf 45 = .ok (.iload_n 3, 1) := by decide +kernel
theorem dX7_clearOf_46 : decode cX7_clearOf 46 = .ok (.ireturn, 1) := by decide +kernel
theorem dX7_allWords_0 : decode cX7_allWords 0 = .ok (.iconst 1, 1) := by decide +kernel
theorem dX7_allWords_1 : decode cX7_allWords 1 = .ok (.aload_n 0, 1) := by decide +kernel
theorem dX7_allWords_2 : decode cX7_allWords 2 = .ok (.getfield 28, 3) := by decide +kernel
theorem dX7_allWords_5 : decode cX7_allWords 5 = .ok (.iconst 0, 1) := by decide +kernel
theorem dX7_allWords_6 : decode cX7_allWords 6 = .ok (.iaload, 1) := by decide +kernel
theorem dX7_allWords_7 : decode cX7_allWords 7 = .ok (.ishl, 1) := by decide +kernel
theorem dX7_allWords_8 : decode cX7_allWords 8 = .ok (.iconst 1, 1) := by decide +kernel
theorem dX7_allWords_9 : decode cX7_allWords 9 = .ok (.isub, 1) := by decide +kernel
theorem dX7_allWords_10 : decode cX7_allWords 10 = .ok (.ireturn, 1) := by decide +kernel
set_option maxRecDepth 20000 in
theorem ggX7_face_X7_in : GoodIn wsX7_face wsX7_in := goodIn_r _ [10] (by decide +kernel) (by decide +kernel)
set_option maxRecDepth 20000 in
theorem gX7_face_X7_in : GoodIn wsX7_face (va_wsS RX7 82 yX7_in wsX7_in) := goodIn_app (goodIn_of _ (by decide +kernel)) ggX7_face_X7_in
theorem dX7_face_0 : decode cX7_face 0 = .ok (.iload_n 1, 1) := by decide +kernel
theorem dX7_face_1 : decode cX7_face 1 = .ok (.i2l, 1) := by decide +kernel
theorem dX7_face_2 : decode cX7_face 2 = .ok (.lconst 0, 1) := by decide +kernel
theorem dX7_face_3 : decode cX7_face 3 = .ok (.aload_n 0, 1) := by decide +kernel
theorem dX7_face_4 : decode cX7_face 4 = .ok (.getfield 13, 3) := by decide +kernel
theorem dX7_face_7 : decode cX7_face 7 = .ok (.iconst 0, 1) := by decide +kernel
theorem dX7_face_8 : decode cX7_face 8 = .ok (.iaload, 1) := by decide +kernel
theorem dX7_face_9 : decode cX7_face 9 = .ok (.iconst 1, 1) := by decide +kernel
theorem dX7_face_10 : decode cX7_face 10 = .ok (.isub, 1) := by decide +kernel
theorem dX7_face_11 : decode cX7_face 11 = .ok (.i2l, 1) := by decide +kernel
theorem dX7_face_12 : decode cX7_face 12 = .ok (.invokestatic 82, 3) := by decide +kernel
theorem dX7_face_15 : decode cX7_face 15 = .ok (.ifCond .eq 15, 3) := by decide +kernel
theorem dX7_face_18 : decode cX7_face 18 = .ok (.iload_n 2, 1) := by decide +kernel
theorem dX7_face_19 : decode cX7_face 19 = .ok (.i2l, 1) := by decide +kernel
theorem dX7_face_20 : decode cX7_face 20 = .ok (.lconst 0, 1) := by decide +kernel
theorem dX7_face_21 : decode cX7_face 21 = .ok (.ldc2_w 184, 3) := by decide +kernel
theorem dX7_face_24 : decode cX7_face 24 = .ok (.invokestatic 82, 3) := by decide +kernel
theorem dX7_face_27 : decode cX7_face 27 = .ok (.ifCond .ne 5, 3) := by decide +kernel
theorem dX7_face_30 : decode cX7_face 30 = .ok (.iconst (-1), 1) := by decide +kernel
theorem dX7_face_31 : decode cX7_face 31 = .ok (.ireturn, 1) := by decide +kernel
theorem dX7_face_32 : decode cX7_face 32 = .ok (.iload_n 2, 1) := by decide +kernel
theorem dX7_face_33 : decode cX7_face 33 = .ok (.ifCond .ne 12, 3) := by decide +kernel
theorem dX7_face_36 : decode cX7_face 36 = .ok (.aload_n 0, 1) := by decide +kernel
theorem dX7_face_37 : decode cX7_face 37 = .ok (.getfield 16, 3) := by decide +kernel
theorem dX7_face_40 : decode cX7_face 40 = .ok (.iload_n 1, 1) := by decide +kernel
theorem dX7_face_41 : decode cX7_face 41 = .ok (.iaload, 1) := by decide +kernel
theorem dX7_face_42 : decode cX7_face 42 = .ok (.goto 41, 3) := by decide +kernel
theorem dX7_face_45 : decode cX7_face 45 = .ok (.iload_n 2, 1) := by decide +kernel
theorem dX7_face_46 : decode cX7_face 46 = .ok (.iconst 1, 1) := by decide +kernel
theorem dX7_face_47 : decode cX7_face 47 = .ok (.if_icmp .ne 12, 3) := by decide +kernel
theorem dX7_face_50 : decode cX7_face 50 = .ok (.aload_n 0, 1) := by decide +kernel
theorem dX7_face_51 : decode cX7_face 51 = .ok (.getfield 19, 3) := by decide +kernel
theorem dX7_face_54 : decode cX7_face 54 = .ok (.iload_n 1, 1) := by decide +kernel
theorem dX7_face_55 : decode cX7_face 55 = .ok (.iaload, 1) := by decide +kernel
theorem dX7_face_56 : decode cX7_face 56 = .ok (.goto 27, 3) := by decide +kernel
theorem dX7_face_59 : decode cX7_face 59 = .ok (.iload_n 2, 1) := by decide +kernel
theorem dX7_face_60 : decode cX7_face 60 = .ok (.iconst 2, 1) := by decide +kernel
theorem dX7_face_61 : decode cX7_face 61 = .ok (.if_icmp .ne 12, 3) := by decide +kernel
theorem dX7_face_64 : decode cX7_face 64 = .ok (.aload_n 0, 1) := by decide +kernel
theorem dX7_face_65 : decode cX7_face 65 = .ok (.getfield 22, 3) := by decide +kernel
theorem dX7_face_68 : decode cX7_face 68 = .ok (.iload_n 1, 1) := by decide +kernel
theorem dX7_face_69 : decode cX7_face 69 = .ok (.iaload, 1) := by decide +kernel
theorem dX7_face_70 : decode cX7_face 70 = .ok (.goto 13, 3) := by decide +kernel
theorem dX7_face_73 : decode cX7_face 73 = .ok (.aload_n 0, 1) := by decide +kernel
theorem dX7_face_74 : decode cX7_face 74 = .ok (.getfield 46, 3) := by decide +kernel
theorem dX7_face_77 : decode cX7_face 77 = .ok (.iconst 0, 1) := by decide +kernel
theorem dX7_face_78 : decode cX7_face 78 = .ok (.iaload, 1) := by decide +kernel
theorem dX7_face_79 : decode cX7_face 79 = .ok (.iload_n 1, 1) := by decide +kernel
theorem dX7_face_80 : decode cX7_face 80 = .ok (.ishr, 1) := by decide +kernel
theorem dX7_face_81 : decode cX7_face 81 = .ok (.iconst 1, 1) := by decide +kernel
theorem dX7_face_82 : decode cX7_face 82 = .ok (.iand, 1) := by decide +kernel
theorem dX7_face_83 : decode cX7_face 83 = .ok (.ireturn, 1) := by decide +kernel
set_option maxRecDepth 20000 in
theorem ggX7_word_X7_in : GoodIn wsX7_word wsX7_in := goodIn_r _ [11] (by decide +kernel) (by decide +kernel)
set_option maxRecDepth 20000 in
theorem gX7_word_X7_in : GoodIn wsX7_word (va_wsS RX7 82 yX7_in wsX7_in) := goodIn_app (goodIn_of _ (by decide +kernel)) ggX7_word_X7_in
set_option maxRecDepth 20000 in
theorem ggX7_word_X7_sayAll : GoodIn wsX7_word wsX7_sayAll := goodIn_r _ [15, 1, 5, 6, 7, 16, 17, 18, 10, 19, 20, 21, 22, 23, 24, 25, 26, 27, 28, 29, 30, 31, 32, 33, 34, 35, 36, 37, 38, 39, 40, 41, 42, 43, 44, 45, 46, 47, 48, 49, 54, 55, 56, 57, 58, 59, 60, 61, 62, 63, 64, 65, 66, 67, 68, 69, 70, 71, 72, 73, 74, 75, 76, 77, 78, 79, 80, 81] (by decide +kernel) (by decide +kernel)
set_option maxRecDepth 20000 in
theorem gX7_word_X7_sayAll : GoodIn wsX7_word (wsV RX7 186 RX7 yX7_sayAll wsX7_sayAll) := goodIn_app (goodIn_of _ (by decide +kernel)) ggX7_word_X7_sayAll
set_option maxRecDepth 20000 in
theorem ggX7_word_X7_isClear : GoodIn wsX7_word wsX7_isClear := goodIn_r _ [53, 5, 7, 29, 21, 6, 33, 34, 10, 35, 54, 55, 56, 57, 58, 59, 60, 61, 62, 63, 64, 65, 66, 67, 68, 69, 70, 71, 72, 73, 74, 75, 76, 77, 78, 79, 80, 81] (by decide +kernel) (by decide +kernel)
set_option maxRecDepth 20000 in
theorem gX7_word_X7_isClear : GoodIn wsX7_word (wsV RX7 180 RX7 yX7_isClear wsX7_isClear) := goodIn_app (goodIn_of _ (by decide +kernel)) ggX7_word_X7_isClear
theorem dX7_word_0 : decode cX7_word 0 = .ok (.iload_n 1, 1) := by decide +kernel
theorem dX7_word_1 : decode cX7_word 1 = .ok (.i2l, 1) := by decide +kernel
theorem dX7_word_2 : decode cX7_word 2 = .ok (.lconst 0, 1) := by decide +kernel
theorem dX7_word_3 : decode cX7_word 3 = .ok (.aload_n 0, 1) := by decide +kernel
theorem dX7_word_4 : decode cX7_word 4 = .ok (.getfield 28, 3) := by decide +kernel
theorem dX7_word_7 : decode cX7_word 7 = .ok (.iconst 0, 1) := by decide +kernel
theorem dX7_word_8 : decode cX7_word 8 = .ok (.iaload, 1) := by decide +kernel
theorem dX7_word_9 : decode cX7_word 9 = .ok (.iconst 1, 1) := by decide +kernel
theorem dX7_word_10 : decode cX7_word 10 = .ok (.isub, 1) := by decide +kernel
theorem dX7_word_11 : decode cX7_word 11 = .ok (.i2l, 1) := by decide +kernel
theorem dX7_word_12 : decode cX7_word 12 = .ok (.invokestatic 82, 3) := by decide +kernel
theorem dX7_word_15 : decode cX7_word 15 = .ok (.ifCond .eq 15, 3) := by decide +kernel
theorem dX7_word_18 : decode cX7_word 18 = .ok (.iload_n 2, 1) := by decide +kernel
theorem dX7_word_19 : decode cX7_word 19 = .ok (.i2l, 1) := by decide +kernel
theorem dX7_word_20 : decode cX7_word 20 = .ok (.lconst 0, 1) := by decide +kernel
theorem dX7_word_21 : decode cX7_word 21 = .ok (.ldc2_w 184, 3) := by decide +kernel
theorem dX7_word_24 : decode cX7_word 24 = .ok (.invokestatic 82, 3) := by decide +kernel
theorem dX7_word_27 : decode cX7_word 27 = .ok (.ifCond .ne 5, 3) := by decide +kernel
theorem dX7_word_30 : decode cX7_word 30 = .ok (.iconst (-1), 1) := by decide +kernel
theorem dX7_word_31 : decode cX7_word 31 = .ok (.ireturn, 1) := by decide +kernel
theorem dX7_word_32 : decode cX7_word 32 = .ok (.iload_n 2, 1) := by decide +kernel
theorem dX7_word_33 : decode cX7_word 33 = .ok (.iconst 3, 1) := by decide +kernel
theorem dX7_word_34 : decode cX7_word 34 = .ok (.if_icmp .ne 47, 3) := by decide +kernel
theorem dX7_word_37 : decode cX7_word 37 = .ok (.aload_n 0, 1) := by decide +kernel
theorem dX7_word_38 : decode cX7_word 38 = .ok (.aload_n 0, 1) := by decide +kernel
theorem dX7_word_39 : decode cX7_word 39 = .ok (.getfield 40, 3) := by decide +kernel
theorem dX7_word_42 : decode cX7_word 42 = .ok (.iconst 0, 1) := by decide +kernel
theorem dX7_word_43 : decode cX7_word 43 = .ok (.iaload, 1) := by decide +kernel
theorem dX7_word_44 : decode cX7_word 44 = .ok (.aload_n 0, 1) := by decide +kernel
theorem dX7_word_45 : decode cX7_word 45 = .ok (.getfield 43, 3) := by decide +kernel
theorem dX7_word_48 : decode cX7_word 48 = .ok (.iconst 0, 1) := by decide +kernel
theorem dX7_word_49 : decode cX7_word 49 = .ok (.iaload, 1) := by decide +kernel
theorem dX7_word_50 : decode cX7_word 50 = .ok (.iconst 0, 1) := by decide +kernel
theorem dX7_word_51 : decode cX7_word 51 = .ok (.invokevirtual 186, 3) := by decide +kernel
theorem dX7_word_54 : decode cX7_word 54 = .ok (.aload_n 0, 1) := by decide +kernel
theorem dX7_word_55 : decode cX7_word 55 = .ok (.iload_n 1, 1) := by decide +kernel
theorem dX7_word_56 : decode cX7_word 56 = .ok (.aload_n 0, 1) := by decide +kernel
theorem dX7_word_57 : decode cX7_word 57 = .ok (.getfield 40, 3) := by decide +kernel
theorem dX7_word_60 : decode cX7_word 60 = .ok (.iconst 0, 1) := by decide +kernel
theorem dX7_word_61 : decode cX7_word 61 = .ok (.iaload, 1) := by decide +kernel
theorem dX7_word_62 : decode cX7_word 62 = .ok (.aload_n 0, 1) := by decide +kernel
theorem dX7_word_63 : decode cX7_word 63 = .ok (.getfield 43, 3) := by decide +kernel
theorem dX7_word_66 : decode cX7_word 66 = .ok (.iconst 0, 1) := by decide +kernel
theorem dX7_word_67 : decode cX7_word 67 = .ok (.iaload, 1) := by decide +kernel
theorem dX7_word_68 : decode cX7_word 68 = .ok (.iconst 0, 1) := by decide +kernel
theorem dX7_word_69 : decode cX7_word 69 = .ok (.invokevirtual 180, 3) := by decide +kernel
theorem dX7_word_72 : decode cX7_word 72 = .ok (.ifCond .eq 7, 3) := by decide +kernel
theorem dX7_word_75 : decode cX7_word 75 = .ok (.iconst 1, 1) := by decide +kernel
theorem dX7_word_76 : decode cX7_word 76 = .ok (.goto 4, 3) := by decide +kernel
theorem dX7_word_79 : decode cX7_word 79 = .ok (.iconst 0, 1) := by decide +kernel
theorem dX7_word_80 : decode cX7_word 80 = .ok (.ireturn, 1) := by decide +kernel
theorem dX7_word_81 : decode cX7_word 81 = .ok (.iload_n 2, 1) := by decide +kernel
theorem dX7_word_82 : decode cX7_word 82 = .ok (.ifCond .ne 12, 3) := by decide +kernel
theorem dX7_word_85 : decode cX7_word 85 = .ok (.aload_n 0, 1) := by decide +kernel
theorem dX7_word_86 : decode cX7_word 86 = .ok (.getfield 31, 3) := by decide +kernel
theorem dX7_word_89 : decode cX7_word 89 = .ok (.iload_n 1, 1) := by decide +kernel
theorem dX7_word_90 : decode cX7_word 90 = .ok (.iaload, 1) := by decide +kernel
theorem dX7_word_91 : decode cX7_word 91 = .ok (.goto 23, 3) := by decide +kernel
theorem dX7_word_94 : decode cX7_word 94 = .ok (.iload_n 2, 1) := by decide +kernel
theorem dX7_word_95 : decode cX7_word 95 = .ok (.iconst 1, 1) := by decide +kernel
theorem dX7_word_96 : decode cX7_word 96 = .ok (.if_icmp .ne 12, 3) := by decide +kernel
theorem dX7_word_99 : decode cX7_word 99 = .ok (.aload_n 0, 1) := by decide +kernel
theorem dX7_word_100 : decode cX7_word 100 = .ok (.getfield 34, 3) := by decide +kernel
theorem dX7_word_103 : decode cX7_word 103 = .ok (.iload_n 1, 1) := by decide +kernel
theorem dX7_word_104 : decode cX7_word 104 = .ok (.iaload, 1) := by decide +kernel
theorem dX7_word_105 : decode cX7_word 105 = .ok (.goto 9, 3) := by decide +kernel
theorem dX7_word_108 : decode cX7_word 108 = .ok (.aload_n 0, 1) := by decide +kernel
theorem dX7_word_109 : decode cX7_word 109 = .ok (.getfield 37, 3) := by decide +kernel
theorem dX7_word_112 : decode cX7_word 112 = .ok (.iload_n 1, 1) := by decide +kernel
theorem dX7_word_113 : decode cX7_word 113 = .ok (.iaload, 1) := by decide +kernel
theorem dX7_word_114 : decode cX7_word 114 = .ok (.ireturn, 1) := by decide +kernel
set_option maxRecDepth 20000 in
theorem ggX7_heard_X7_isYard : GoodIn wsX7_heard wsX7_isYard := goodIn_r _ [7, 8, 9, 10, 6, 11] (by decide +kernel) (by decide +kernel)
set_option maxRecDepth 20000 in
theorem gX7_heard_X7_isYard : GoodIn wsX7_heard (va_wsS RX7 117 yX7_isYard wsX7_isYard) := goodIn_app (goodIn_of _ (by decide +kernel)) ggX7_heard_X7_isYard
set_option maxRecDepth 20000 in
theorem ggX7_heard_X7_in : GoodIn wsX7_heard wsX7_in := goodIn_r _ [11] (by decide +kernel) (by decide +kernel)
set_option maxRecDepth 20000 in
theorem gX7_heard_X7_in : GoodIn wsX7_heard (va_wsS RX7 82 yX7_in wsX7_in) := goodIn_app (goodIn_of _ (by decide +kernel)) ggX7_heard_X7_in
set_option maxRecDepth 20000 in
theorem ggX7_heard_X7_sayAll : GoodIn wsX7_heard wsX7_sayAll := goodIn_r _ [15, 16, 17, 18, 19, 20, 21, 22, 6, 23, 24, 3, 25, 26, 27, 28, 29, 30, 31, 32, 33, 34, 35, 36, 37, 38, 39, 40, 41, 42, 43, 44, 45, 46, 47, 48, 49, 50, 51, 52, 53, 54, 55, 56, 57, 58, 59, 60, 61, 62, 63, 64, 65, 66, 67, 68, 69, 70, 71, 72, 73, 74, 75, 76, 77, 78, 79, 80] (by decide +kernel) (by decide +kernel)
set_option maxRecDepth 20000 in
theorem gX7_heard_X7_sayAll : GoodIn wsX7_heard (wsV RX7 186 RX7 yX7_sayAll wsX7_sayAll) := goodIn_app (goodIn_of _ (by decide +kernel)) ggX7_heard_X7_sayAll
theorem dX7_heard_0 : decode cX7_heard 0 = .ok (.iload_n 1, 1) := by decide +kernel
theorem dX7_heard_1 : decode cX7_heard 1 = .ok (.invokestatic 117, 3) := by decide +kernel
theorem dX7_heard_4 : decode cX7_heard 4 = .ok (.ifCond .eq 15, 3) := by decide +kernel
theorem dX7_heard_7 : decode cX7_heard 7 = .ok (.iload_n 2, 1) := by decide +kernel
theorem dX7_heard_8 : decode cX7_heard 8 = .ok (.i2l, 1) := by decide +kernel
theorem dX7_heard_9 : decode cX7_heard 9 = .ok (.lconst 0, 1) := by decide +kernel
theorem dX7_heard_10 : decode cX7_heard 10 = .ok (.ldc2_w 189, 3) := by decide +kernel
theorem dX7_heard_13 : decode cX7_heard 13 = .ok (.invokestatic 82, 3) := by decide +kernel
theorem dX7_heard_16 : decode cX7_heard 16 = .ok (.ifCond .ne 5, 3) := by decide +kernel
theorem dX7_heard_19 : decode cX7_heard 19 = .ok (.iconst (-1), 1) := by decide +kernel
theorem dX7_heard_20 : decode cX7_heard 20 = .ok (.ireturn, 1) := by decide +kernel
theorem dX7_heard_21 : decode cX7_heard 21 = .ok (.aload_n 0, 1) := by decide +kernel
theorem dX7_heard_22 : decode cX7_heard 22 = .ok (.aload_n 0, 1) := by decide +kernel
theorem dX7_heard_23 : decode cX7_heard 23 = .ok (.getfield 40, 3) := by decide +kernel
theorem dX7_heard_26 : decode cX7_heard 26 = .ok (.iconst 0, 1) := by decide +kernel
theorem dX7_heard_27 : decode cX7_heard 27 = .ok (.iaload, 1) := by decide +kernel
theorem dX7_heard_28 : decode cX7_heard 28 = .ok (.iload_n 1, 1) := by decide +kernel
theorem dX7_heard_29 : decode cX7_heard 29 = .ok (.iconst 0, 1) := by decide +kernel
theorem dX7_heard_30 : decode cX7_heard 30 = .ok (.invokevirtual 186, 3) := by decide +kernel
theorem dX7_heard_33 : decode cX7_heard 33 = .ok (.aload_n 0, 1) := by decide +kernel
theorem dX7_heard_34 : decode cX7_heard 34 = .ok (.getfield 70, 3) := by decide +kernel
theorem dX7_heard_37 : decode cX7_heard 37 = .ok (.iload_n 2, 1) := by decide +kernel
theorem dX7_heard_38 : decode cX7_heard 38 = .ok (.iaload, 1) := by decide +kernel
theorem dX7_heard_39 : decode cX7_heard 39 = .ok (.ireturn, 1) := by decide +kernel
set_option maxRecDepth 20000 in
theorem ggX7_clearMany_X7_sayAll : GoodIn wsX7_clearMany wsX7_sayAll := goodIn_r _ [5, 6, 7, 8, 9, 10, 11, 12, 4, 13, 14, 15, 16, 17, 18, 19, 20, 21, 22, 23, 24, 25, 26, 27, 28, 29, 30, 31, 32, 33, 34, 35, 36, 37, 38, 39, 40, 41, 42, 43, 55, 56, 57, 58, 59, 60, 61, 62, 63, 64, 65, 66, 67, 68, 69, 70, 71, 72, 73, 74, 75, 76, 77, 78, 79, 80, 81, 82] (by decide +kernel) (by decide +kernel)
set_option maxRecDepth 20000 in
theorem gX7_clearMany_X7_sayAll : GoodIn wsX7_clearMany (wsV RX7 186 RX7 yX7_sayAll wsX7_sayAll) := goodIn_app (goodIn_of _ (by decide +kernel)) ggX7_clearMany_X7_sayAll
set_option maxRecDepth 20000 in
theorem ggX7_clearMany_X7_clearOf : GoodIn wsX7_clearMany wsX7_clearOf := goodIn_r _ [47, 6, 48, 49, 50, 4, 51, 7, 9, 23, 15, 8, 27, 28, 29, 55, 56, 57, 58, 59, 60, 61, 62, 63, 64, 65, 66, 67, 68, 69, 70, 71, 72, 73, 74, 75, 76, 77, 78, 79, 80, 81, 82] (by decide +kernel) (by decide +kernel)
set_option maxRecDepth 20000 in
theorem gX7_clearMany_X7_clearOf : GoodIn wsX7_clearMany (wsV RX7 191 RX7 yX7_clearOf wsX7_clearOf) := goodIn_app (goodIn_of _ (by decide +kernel)) ggX7_clearMany_X7_clearOf
set_option maxRecDepth 20000 in
theorem ggX7_clearMany_X7_bits : GoodIn wsX7_clearMany wsX7_bits := goodIn_r _ [54] (by decide +kernel) (by decide +kernel)
set_option maxRecDepth 20000 in
theorem gX7_clearMany_X7_bits : GoodIn wsX7_clearMany (va_wsS RX7 194 yX7_bits wsX7_bits) := goodIn_app (goodIn_of _ (by decide +kernel)) ggX7_clearMany_X7_bits
theorem dX7_clearMany_0 : decode cX7_clearMany 0 = .ok (.aload_n 0, 1) := by decide +kernel
theorem dX7_clearMany_1 : decode cX7_clearMany 1 = .ok (.iload_n 1, 1) := by decide +kernel
theorem dX7_clearMany_2 : decode cX7_clearMany 2 = .ok (.iload_n 2, 1) := by decide +kernel
theorem dX7_clearMany_3 : decode cX7_clearMany 3 = .ok (.iconst 0, 1) := by decide +kernel
theorem dX7_clearMany_4 : decode cX7_clearMany 4 = .ok (.invokevirtual 186, 3) := by decide +kernel
theorem dX7_clearMany_7 : decode cX7_clearMany 7 = .ok (.aload_n 0, 1) := by decide +kernel
theorem dX7_clearMany_8 : decode cX7_clearMany 8 = .ok (.iload_n 1, 1) := by decide +kernel
theorem dX7_clearMany_9 : decode cX7_clearMany 9 = .ok (.iload_n 2, 1) := by decide +kernel
theorem dX7_clearMany_10 : decode cX7_clearMany 10 = .ok (.invokevirtual 191, 3) := by decide +kernel
theorem dX7_clearMany_13 : decode cX7_clearMany 13 = .ok (.invokestatic 194, 3) := by decide +kernel
theorem dX7_clearMany_16 : decode cX7_clearMany 16 = .ok (.ireturn, 1) := by decide +kernel
set_option maxRecDepth 20000 in
theorem ggX7_clear_X7_isYard : GoodIn wsX7_clear wsX7_isYard := goodIn_r _ [5, 6, 7, 8, 4, 9] (by decide +kernel) (by decide +kernel)
set_option maxRecDepth 20000 in
theorem gX7_clear_X7_isYard : GoodIn wsX7_clear (va_wsS RX7 117 yX7_isYard wsX7_isYard) := goodIn_app (goodIn_of _ (by decide +kernel)) ggX7_clear_X7_isYard
set_option maxRecDepth 20000 in
theorem ggX7_clear_X7_clearMany : GoodIn wsX7_clear wsX7_clearMany := goodIn_r _ [13, 14, 15, 16, 4, 17, 18, 19, 20, 21, 22, 23, 24, 25, 26, 27, 28, 29, 30, 31, 32, 33, 34, 35, 36, 37, 38, 39, 40, 41, 42, 43, 44, 45, 46, 47, 48, 49, 50, 51, 52, 53, 54, 55, 56, 57, 58, 59, 60, 61, 62, 63, 64, 65, 66, 67, 68, 69, 70, 71, 72, 73, 74, 75, 76, 77, 78, 79, 80, 81, 82, 83, 84, 85, 86, 87, 88, 89, 90, 91, 92, 93, 94] (by decide +kernel) (by decide +kernel)
set_option maxRecDepth 20000 in
theorem gX7_clear_X7_clearMany : GoodIn wsX7_clear (wsV RX7 197 RX7 yX7_clearMany wsX7_clearMany) := goodIn_app (goodIn_of _ (by decide +kernel)) ggX7_clear_X7_clearMany
theorem dX7_clear_0 : decode cX7_clear 0 = .ok (.iload_n 1, 1) := by decide +kernel
theorem dX7_clear_1 : decode cX7_clear 1 = .ok (.invokestatic 117, 3) := by decide +kernel
theorem dX7_clear_4 : decode cX7_clear 4 = .ok (.ifCond .eq 17, 3) := by decide +kernel
theorem dX7_clear_7 : decode cX7_clear 7 = .ok (.aload_n 0, 1) := by decide +kernel
theorem dX7_clear_8 : decode cX7_clear 8 = .ok (.aload_n 0, 1) := by decide +kernel
theorem dX7_clear_9 : decode cX7_clear 9 = .ok (.getfield 40, 3) := by decide +kernel
theorem dX7_clear_12 : decode cX7_clear 12 = .ok (.iconst 0, 1) := by decide +kernel
theorem dX7_clear_13 : decode cX7_clear 13 = .ok (.iaload, 1) := by decide +kernel
theorem dX7_clear_14 : decode cX7_clear 14 = .ok (.iload_n 1, 1) := by decide +kernel
theorem dX7_clear_15 : decode cX7_clear 15 = .ok (.invokevirtual 197, 3) := by decide +kernel
theorem dX7_clear_18 : decode cX7_clear 18 = .ok (.goto 4, 3) := by decide +kernel
theorem dX7_clear_21 : decode cX7_clear 21 = .ok (.iconst (-1), 1) := by decide +kernel
theorem dX7_clear_22 : decode cX7_clear 22 = .ok (.ireturn, 1) := by decide +kernel
set_option maxRecDepth 20000 in
theorem ggX7_paysFor_X7_faceFar : GoodIn wsX7_paysFor wsX7_faceFar := goodIn_r _ [12, 13, 14, 15, 11, 16, 26, 27, 28, 29, 30, 31, 32, 33, 34, 35, 36, 37, 38, 39, 40, 41, 42, 43, 44, 45, 46, 47, 48, 49, 50, 51, 52, 53] (by decide +kernel) (by decide +kernel)
set_option maxRecDepth 20000 in
theorem gX7_paysFor_X7_faceFar : GoodIn wsX7_paysFor (wsV RX7 166 RX7 yX7_faceFar wsX7_faceFar) := goodIn_app (goodIn_of _ (by decide +kernel)) ggX7_paysFor_X7_faceFar
set_option maxRecDepth 20000 in
theorem ggX7_paysFor_X7_faceLoud : GoodIn wsX7_paysFor wsX7_faceLoud := goodIn_r _ [20, 21, 4, 22, 26, 27, 28, 29, 30, 31, 32, 33, 34, 35, 36, 37, 38, 39, 40, 41, 42, 43, 44, 45, 46, 47, 48, 49, 50, 51, 52, 53] (by decide +kernel) (by decide +kernel)
set_option maxRecDepth 20000 in
theorem gX7_paysFor_X7_faceLoud : GoodIn wsX7_paysFor (wsV RX7 170 RX7 yX7_faceLoud wsX7_faceLoud) := goodIn_app (goodIn_of _ (by decide +kernel)) ggX7_paysFor_X7_faceLoud
set_option maxRecDepth 20000 in
theorem ggX7_paysFor_X7_has : GoodIn wsX7_paysFor wsX7_has := goodIn_r _ [25] (by decide +kernel) (by decide +kernel)
set_option maxRecDepth 20000 in
theorem gX7_paysFor_X7_has : GoodIn wsX7_paysFor (va_wsS RX7 162 yX7_has wsX7_has) := goodIn_app (goodIn_of _ (by decide +kernel)) ggX7_paysFor_X7_has
theorem dX7_paysFor_0 : decode cX7_paysFor 0 = .ok (.iconst 0, 1) := by decide +kernel
theorem dX7_paysFor_1 : decode cX7_paysFor 1 = .ok (.istore_n 3, 1) := by decide +kernel
theorem dX7_paysFor_2 : decode cX7_paysFor 2 = .ok (.iconst 0, 1) := by decide +kernel
theorem dX7_paysFor_3 : decode cX7_paysFor 3 = .ok (.istore 4, 2) := by decide +kernel
theorem dX7_paysFor_5 : decode cX7_paysFor 5 = .ok (.iload 4, 2) := by decide +kernel
theorem dX7_paysFor_7 : decode cX7_paysFor 7 = .ok (.aload_n 0, 1) := by decide +kernel
theorem dX7_paysFor_8 : decode cX7_paysFor 8 = .ok (.getfield 13, 3) := by decide +kernel
theorem dX7_paysFor_11 : decode cX7_paysFor 11 = .ok (.iconst 0, 1) := by decide +kernel
theorem dX7_paysFor_12 : decode cX7_paysFor 12 = .ok (.iaload, 1) := by decide +kernel
theorem dX7_paysFor_13 : decode cX7_paysFor 13 = .ok (.if_icmp .ge 171, 3) := by decide +kernel
theorem dX7_paysFor_16 : decode cX7_paysFor 16 = .ok (.aload_n 0, 1) := by decide +kernel
theorem dX7_paysFor_17 : decode cX7_paysFor 17 = .ok (.iload 4, 2) := by decide +kernel
theorem dX7_paysFor_19 : decode cX7_paysFor 19 = .ok (.iload_n 2, 1) := by decide +kernel
theorem dX7_paysFor_20 : decode cX7_paysFor 20 = .ok (.iload_n 2, 1) := by decide +kernel
theorem dX7_paysFor_21 : decode cX7_paysFor 21 = .ok (.invokevirtual 166, 3) := by decide +kernel
theorem dX7_paysFor_24 : decode cX7_paysFor 24 = .ok (.istore 5, 2) := by decide +kernel
theorem dX7_paysFor_26 : decode cX7_paysFor 26 = .ok (.aload_n 0, 1) := by decide +kernel
theorem dX7_paysFor_27 : decode cX7_paysFor 27 = .ok (.iload 4, 2) := by decide +kernel
theorem dX7_paysFor_29 : decode cX7_paysFor 29 = .ok (.iload 5, 2) := by decide +kernel
theorem dX7_paysFor_31 : decode cX7_paysFor 31 = .ok (.aload_n 0, 1) := by decide +kernel
theorem dX7_paysFor_32 : decode cX7_paysFor 32 = .ok (.getfield 37, 3) := by decide +kernel
theorem dX7_paysFor_35 : decode cX7_paysFor 35 = .ok (.iload_n 1, 1) := by decide +kernel
theorem dX7_paysFor_36 : decode cX7_paysFor 36 = .ok (.iaload, 1) := by decide +kernel
theorem dX7_paysFor_37 : decode cX7_paysFor 37 = .ok (.invokevirtual 170, 3) := by decide +kernel
theorem dX7_paysFor_40 : decode cX7_paysFor 40 = .ok (.istore 6, 2) := by decide +kernel
theorem dX7_paysFor_42 : decode cX7_paysFor 42 = .ok (.aload_n 0, 1) := by decide +kernel
theorem dX7_paysFor_43 : decode cX7_paysFor 43 = .ok (.getfield 31, 3) := by decide +kernel
theorem dX7_paysFor_46 : decode cX7_paysFor 46 = .ok (.iload_n 1, 1) := by decide +kernel
theorem dX7_paysFor_47 : decode cX7_paysFor 47 = .ok (.iaload, 1) := by decide +kernel
theorem dX7_paysFor_48 : decode cX7_paysFor 48 = .ok (.iload 5, 2) := by decide +kernel
theorem dX7_paysFor_50 : decode cX7_paysFor 50 = .ok (.iadd, 1) := by decide +kernel
theorem dX7_paysFor_51 : decode cX7_paysFor 51 = .ok (.aload_n 0, 1) := by decide +kernel
theorem dX7_paysFor_52 : decode cX7_paysFor 52 = .ok (.getfield 22, 3) := by decide +kernel
theorem dX7_paysFor_55 : decode cX7_paysFor 55 = .ok (.iload 4, 2) := by decide +kernel
theorem dX7_paysFor_57 : decode cX7_paysFor 57 = .ok (.iaload, 1) := by decide +kernel
theorem dX7_paysFor_58 : decode cX7_paysFor 58 = .ok (.iconst 2, 1) := by decide +kernel
theorem dX7_paysFor_59 : decode cX7_paysFor 59 = .ok (.if_icmp .ne 7, 3) := by decide +kernel
theorem dX7_paysFor_62 : decode cX7_paysFor 62 = .ok (.iconst 2, 1) := by decide +kernel
theorem dX7_paysFor_63 : decode cX7_paysFor 63 = .ok (.goto 4, 3) := by decide +kernel
theorem dX7_paysFor_66 : decode cX7_paysFor 66 = .ok (.iconst 0, 1) := by decide +kernel
theorem dX7_paysFor_67 : decode cX7_paysFor 67 = .ok (.iadd, 1) := by decide +kernel
theorem dX7_paysFor_68 : decode cX7_paysFor 68 = .ok (.istore 7, 2) := by decide +kernel
theorem dX7_paysFor_70 : decode cX7_paysFor 70 = .ok (.aload_n 0, 1) := by decide +kernel
theorem dX7_paysFor_71 : decode cX7_paysFor 71 = .ok (.getfield 46, 3) := by decide +kernel
theorem dX7_paysFor_74 : decode cX7_paysFor 74 = .ok (.iconst 0, 1) := by decide +kernel
theorem dX7_paysFor_75 : decode cX7_paysFor 75 = .ok (.iaload, 1) := by decide +kernel
theorem dX7_paysFor_76 : decode cX7_paysFor 76 = .ok (.iload 4, 2) := by decide +kernel
theorem dX7_paysFor_78 : decode cX7_paysFor 78 = .ok (.invokestatic 162, 3) := by decide +kernel
theorem dX7_paysFor_81 : decode cX7_paysFor 81 = .ok (.ifCond .ne 97, 3) := by decide +kernel
theorem dX7_paysFor_84 : decode cX7_paysFor 84 = .ok (.iload_n 3, 1) := by decide +kernel
theorem dX7_paysFor_85 : decode cX7_paysFor 85 = .ok (.ifCond .ne 32, 3) := by decide +kernel
theorem dX7_paysFor_88 : decode cX7_paysFor 88 = .ok (.iload 6, 2) := by decide +kernel
theorem dX7_paysFor_90 : decode cX7_paysFor 90 = .ok (.ifCond .le 31, 3) := by decide +kernel
theorem dX7_paysFor_93 : decode cX7_paysFor 93 = .ok (.iload 7, 2) := by decide +kernel
theorem dX7_paysFor_95 : decode cX7_paysFor 95 = .ok (.sipush 150, 3) := by decide +kernel
theorem dX7_paysFor_98 : decode cX7_paysFor 98 = .ok (.if_icmp .ge 23, 3) := by decide +kernel
theorem dX7_paysFor_101 : decode cX7_paysFor 101 = .ok (.aload_n 0, 1) := by decide +kernel
theorem dX7_paysFor_102 : decode cX7_paysFor 102 = .ok (.getfield 70, 3) := by decide +kernel
theorem dX7_paysFor_105 : decode cX7_paysFor 105 = .ok (.iload 7, 2) := by decide +kernel
theorem dX7_paysFor_107 : decode cX7_paysFor 107 = .ok (.iaload, 1) := by decide +kernel
theorem dX7_paysFor_108 : decode cX7_paysFor 108 = .ok (.aload_n 0, 1) := by decide +kernel
theorem dX7_paysFor_109 : decode cX7_paysFor 109 = .ok (.getfield 34, 3) := by decide +kernel
theorem dX7_paysFor_112 : decode cX7_paysFor 112 = .ok (.iload_n 1, 1) := by decide +kernel
theorem dX7_paysFor_113 : decode cX7_paysFor 113 = .ok (.iaload, 1) := by decide +kernel
theorem dX7_paysFor_114 : decode cX7_paysFor 114 = .ok (.if_icmp .ne 7, 3) := by decide +kernel
theorem dX7_paysFor_117 : decode cX7_paysFor 117 = .ok (.iconst 1, 1) := by decide +kernel
theorem dX7_paysFor_118 : decode cX7_paysFor 118 = .ok (.goto 4, 3) := by decide +kernel
theorem dX7_paysFor_121 : decode cX7_paysFor 121 = .ok (.iconst 0, 1) := by decide +kernel
theorem dX7_paysFor_122 : decode cX7_paysFor 122 = .ok (.istore_n 3, 1) := by decide +kernel
theorem dX7_paysFor_123 : decode cX7_paysFor 123 = .ok (.iload_n 3, 1) := by decide +kernel
theorem dX7_paysFor_124 : decode cX7_paysFor 124 = .ok (.ifCond .ne 48, 3) := by decide +kernel
theorem dX7_paysFor_127 : decode cX7_paysFor 127 = .ok (.aload_n 0, 1) := by decide +kernel
theorem dX7_paysFor_128 : decode cX7_paysFor 128 = .ok (.getfield 22, 3) := by decide +kernel
theorem dX7_paysFor_131 : decode cX7_paysFor 131 = .ok (.iload 4, 2) := by decide +kernel
theorem dX7_paysFor_133 : decode cX7_paysFor 133 = .ok (.iaload, 1) := by decide +kernel
theorem dX7_paysFor_134 : decode cX7_paysFor 134 = .ok (.iconst 3, 1) := by decide +kernel
theorem dX7_paysFor_135 : decode cX7_paysFor 135 = .ok (.if_icmp .ne 41, 3) := by decide +kernel
theorem dX7_paysFor_138 : decode cX7_paysFor 138 = .ok (.iload 6, 2) := by decide +kernel
theorem dX7_paysFor_140 : decode cX7_paysFor 140 = .ok (.iconst 3, 1) := by decide +kernel
theorem dX7_paysFor_141 : decode cX7_paysFor 141 = .ok (.if_icmp .le 35, 3) := by decide +kernel
theorem dX7_paysFor_144 : decode cX7_paysFor 144 = .ok (.iload 7, 2) := by decide +kernel
theorem dX7_paysFor_146 : decode cX7_paysFor 146 = .ok (.iconst 4, 1) := by decide +kernel
theorem dX7_paysFor_147 : decode cX7_paysFor 147 = .ok (.iadd, 1) := by decide +kernel
theorem dX7_paysFor_148 : decode cX7_paysFor 148 = .ok (.sipush 150, 3) := by decide +kernel
theorem dX7_paysFor_151 : decode cX7_paysFor 151 = .ok (.if_icmp .ge 25, 3) := by decide +kernel
theorem dX7_paysFor_154 : decode cX7_paysFor 154 = .ok (.aload_n 0, 1) := by decide +kernel
theorem dX7_paysFor_155 : decode cX7_paysFor 155 = .ok (.getfield 70, 3) := by decide +kernel
theorem dX7_paysFor_158 : decode cX7_paysFor 158 = .ok (.iload 7, 2) := by decide +kernel
theorem dX7_paysFor_160 : decode cX7_paysFor 160 = .ok (.iconst 4, 1) := by decide +kernel
theorem dX7_paysFor_161 : decode cX7_paysFor 161 = .ok (.iadd, 1) := by decide +kernel
theorem dX7_paysFor_162 : decode cX7_paysFor 162 = .ok (.iaload, 1) := by decide +kernel
theorem dX7_paysFor_163 : decode cX7_paysFor 163 = .ok (.aload_n 0, 1) := by decide +kernel
theorem dX7_paysFor_164 : decode cX7_paysFor 164 = .ok (.getfield 34, 3) := by decide +kernel
theorem dX7_paysFor_167 : decode cX7_paysFor 167 = .ok (.iload_n 1, 1) := by decide +kernel
theorem dX7_paysFor_168 : decode cX7_paysFor 168 = .ok (.iaload, 1) := by decide +kernel
theorem dX7_paysFor_169 : decode cX7_paysFor 169 = .ok (.if_icmp .ne 7, 3) := by decide +kernel
theorem dX7_paysFor_172 : decode cX7_paysFor 172 = .ok (.iconst 1, 1) := by decide +kernel
theorem dX7_paysFor_173 : decode cX7_paysFor 173 = .ok (.goto 4, 3) := by decide +kernel
theorem dX7_paysFor_176 : decode cX7_paysFor 176 = .ok (.iconst 0, 1) := by decide +kernel
theorem dX7_paysFor_177 : decode cX7_paysFor 177 = .ok (.istore_n 3, 1) := by decide +kernel
theorem dX7_paysFor_178 : decode cX7_paysFor 178 = .ok (.iinc 4 1, 3) := by decide +kernel
theorem dX7_paysFor_181 : decode cX7_paysFor 181 = .ok (.goto (-176), 3) := by decide +kernel
theorem dX7_paysFor_184 : decode cX7_paysFor 184 = .ok (.iload_n 3, 1) := by decide +kernel
theorem dX7_paysFor_185 : decode cX7_paysFor 185 = .ok (.ireturn, 1) := by decide +kernel
set_option maxRecDepth 20000 in
theorem ggX7_rentOf_X7_sayAll : GoodIn wsX7_rentOf wsX7_sayAll := goodIn_r _ [6, 1, 7, 8, 9, 10, 11, 12, 5, 13, 14, 15, 16, 17, 18, 19, 20, 21, 22, 23, 24, 25, 26, 27, 28, 29, 30, 31, 32, 33, 34, 35, 36, 37, 38, 39, 40, 41, 42, 43, 48, 49, 50, 51, 52, 53, 54, 55, 56, 57, 58, 59, 60, 61, 62, 63, 64, 65, 66, 67, 68, 69, 70, 71, 72, 73, 74, 75] (by decide +kernel) (by decide +kernel)
set_option maxRecDepth 20000 in
theorem gX7_rentOf_X7_sayAll : GoodIn wsX7_rentOf (wsV RX7 186 RX7 yX7_sayAll wsX7_sayAll) := goodIn_app (goodIn_of _ (by decide +kernel)) ggX7_rentOf_X7_sayAll
set_option maxRecDepth 20000 in
theorem ggX7_rentOf_X7_paysFor : GoodIn wsX7_rentOf wsX7_paysFor := goodIn_r _ [47, 24, 9, 7, 26, 25, 15, 8, 34, 35, 36, 5, 37, 38, 27, 28, 29, 39, 40, 41, 42, 23, 43, 16, 17, 18, 48, 49, 50, 51, 52, 53, 54, 55, 56, 57, 58, 59, 60, 61, 62, 63, 64, 65, 66, 67, 68, 69, 70, 71, 72, 73, 74, 75] (by decide +kernel) (by decide +kernel)
set_option maxRecDepth 20000 in
theorem gX7_rentOf_X7_paysFor : GoodIn wsX7_rentOf (wsV RX7 200 RX7 yX7_paysFor wsX7_paysFor) := goodIn_app (goodIn_of _ (by decide +kernel)) ggX7_rentOf_X7_paysFor
theorem dX7_rentOf_0 : decode cX7_rentOf 0 = .ok (.aload_n 0, 1) := by decide +kernel
theorem dX7_rentOf_1 : decode cX7_rentOf 1 = .ok (.iload_n 1, 1) := by decide +kernel
theorem dX7_rentOf_2 : decode cX7_rentOf 2 = .ok (.iload_n 1, 1) := by decide +kernel
theorem dX7_rentOf_3 : decode cX7_rentOf 3 = .ok (.iconst 0, 1) := by decide +kernel
theorem dX7_rentOf_4 : decode cX7_rentOf 4 = .ok (.invokevirtual 186, 3) := by decide +kernel
theorem dX7_rentOf_7 : decode cX7_rentOf 7 = .ok (.iconst 0, 1) := by decide +kernel
theorem dX7_rentOf_8 : decode cX7_rentOf 8 = .ok (.istore_n 2, 1) := by decide +kernel
theorem dX7_rentOf_9 : decode cX7_rentOf 9 = .ok (.iconst 0, 1) := by decide +kernel
theorem dX7_rentOf_10 : decode cX7_rentOf 10 = .ok (.istore_n 3, 1) := by decide +kernel
theorem dX7_rentOf_11 : decode cX7_rentOf 11 = .ok (.iload_n 3, 1) := by decide +kernel
theorem dX7_rentOf_12 : decode cX7_rentOf 12 = .ok (.aload_n 0, 1) := by decide +kernel
theorem dX7_rentOf_13 : decode cX7_rentOf 13 = .ok (.getfield 28, 3) := by decide +kernel
theorem dX7_rentOf_16 : decode cX7_rentOf 16 = .ok (.iconst 0, 1) := by decide +kernel
theorem dX7_rentOf_17 : decode cX7_rentOf 17 = .ok (.iaload, 1) := by decide +kernel
theorem dX7_rentOf_18 : decode cX7_rentOf 18 = .ok (.if_icmp .ge 26, 3) := by decide +kernel
theorem dX7_rentOf_21 : decode cX7_rentOf 21 = .ok (.iload_n 2, 1) := by decide +kernel
theorem dX7_rentOf_22 : decode cX7_rentOf 22 = .ok (.aload_n 0, 1) := by decide +kernel
theorem dX7_rentOf_23 : decode cX7_rentOf 23 = .ok (.iload_n 3, 1) := by decide +kernel
theorem dX7_rentOf_24 : decode cX7_rentOf 24 = .ok (.iload_n 1, 1) := by decide +kernel
theorem dX7_rentOf_25 : decode cX7_rentOf 25 = .ok (.invokevirtual 200, 3) := by decide +kernel
theorem dX7_rentOf_28 : decode cX7_rentOf 28 = .ok (.ifCond .eq 7, 3) := by decide +kernel
theorem dX7_rentOf_31 : decode cX7_rentOf 31 = .ok (.iconst 1, 1) := by decide +kernel
theorem dX7_rentOf_32 : decode cX7_rentOf 32 = .ok (.goto 4, 3) := by decide +kernel
theorem dX7_rentOf_35 : decode cX7_rentOf 35 = .ok (.iconst 0, 1) := by decide +kernel
theorem dX7_rentOf_36 : decode cX7_rentOf 36 = .ok (.iadd, 1) := by decide +kernel
theorem dX7_rentOf_37 : decode cX7_rentOf 37 = .ok (.istore_n 2, 1) := by decide +kernel
theorem dX7_rentOf_38 : decode cX7_rentOf 38 = .ok (.iinc 3 1, 3) := by decide +kernel
theorem dX7_rentOf_41 : decode cX7_rentOf 41 = .ok (.goto (-30), 3) := by decide +kernel
theorem dX7_rentOf_44 : decode cX7_rentOf 44 = .ok (.iload_n 2, 1) := by decide +kernel
theorem dX7_rentOf_45 : decode cX7_rentOf 45 = .ok (.ireturn, 1) := by decide +kernel
set_option maxRecDepth 20000 in
theorem ggX7_rent_X7_rentOf : GoodIn wsX7_rent wsX7_rentOf := goodIn_r _ [6, 7, 8, 9, 10, 5, 11, 12, 13, 14, 15, 16, 17, 18, 19, 20, 21, 22, 23, 24, 25, 26, 27, 28, 29, 30, 31, 32, 33, 34, 35, 36, 37, 38, 39, 40, 41, 42, 43, 44, 45, 46, 47, 48, 49, 50, 51, 52, 53, 54, 55, 56, 57, 58, 59, 60, 61, 62, 63, 64, 65, 66, 67, 68, 69, 70, 71, 72, 73, 74, 75, 76, 77, 78, 79, 80] (by decide +kernel) (by decide +kernel)
set_option maxRecDepth 20000 in
theorem gX7_rent_X7_rentOf : GoodIn wsX7_rent (wsV RX7 203 RX7 yX7_rentOf wsX7_rentOf) := goodIn_app (goodIn_of _ (by decide +kernel)) ggX7_rent_X7_rentOf
theorem dX7_rent_0 : decode cX7_rent 0 = .ok (.aload_n 0, 1) := by decide +kernel
theorem dX7_rent_1 : decode cX7_rent 1 = .ok (.aload_n 0, 1) := by decide +kernel
theorem dX7_rent_2 : decode cX7_rent 2 = .ok (.getfield 40, 3) := by decide +kernel
theorem dX7_rent_5 : decode cX7_rent 5 = .ok (.iconst 0, 1) := by decide +kernel
theorem dX7_rent_6 : decode cX7_rent 6 = .ok (.iaload, 1) := by decide +kernel
theorem dX7_rent_7 : decode cX7_rent 7 = .ok (.invokevirtual 203, 3) := by decide +kernel
theorem dX7_rent_10 : decode cX7_rent 10 = .ok (.ireturn, 1) := by decide +kernel
set_option maxRecDepth 20000 in
theorem ggX7_place_X7_in : GoodIn wsX7_place wsX7_in := goodIn_r _ [7] (by decide +kernel) (by decide +kernel)
set_option maxRecDepth 20000 in
theorem gX7_place_X7_in : GoodIn wsX7_place (va_wsS RX7 82 yX7_in wsX7_in) := goodIn_app (goodIn_of _ (by decide +kernel)) ggX7_place_X7_in
set_option maxRecDepth 20000 in
theorem ggX7_place_X7_clearMany : GoodIn wsX7_place wsX7_clearMany := goodIn_r _ [11, 12, 13, 14, 6, 15, 16, 17, 18, 19, 20, 21, 22, 23, 24, 25, 26, 27, 28, 29, 30, 31, 32, 33, 34, 35, 36, 37, 38, 39, 40, 41, 42, 43, 44, 45, 46, 47, 48, 49, 50, 51, 52, 53, 54, 55, 56, 57, 58, 59, 60, 61, 62, 63, 64, 73, 74, 75, 76, 77, 78, 79, 80, 81, 82, 83, 84, 85, 86, 87, 88, 89, 90, 91, 92, 93, 94, 95, 96, 97, 98, 99, 100] (by decide +kernel) (by decide +kernel)
set_option maxRecDepth 20000 in
theorem gX7_place_X7_clearMany : GoodIn wsX7_place (wsV RX7 197 RX7 yX7_clearMany wsX7_clearMany) := goodIn_app (goodIn_of _ (by decide +kernel)) ggX7_place_X7_clearMany
set_option maxRecDepth 20000 in
theorem ggX7_place_X7_rentOf : GoodIn wsX7_place wsX7_rentOf := goodIn_r _ [68, 16, 12, 13, 14, 6, 15, 17, 18, 19, 20, 21, 22, 23, 24, 25, 26, 27, 28, 29, 30, 31, 32, 33, 34, 35, 36, 37, 38, 39, 40, 41, 42, 43, 44, 45, 46, 47, 48, 49, 50, 51, 52, 53, 69, 70, 71, 72, 73, 74, 75, 76, 77, 78, 79, 80, 81, 82, 83, 84, 85, 86, 87, 88, 89, 90, 91, 92, 93, 94, 95, 96, 97, 98, 99, 100] (by decide +kernel) (by decide +kernel)
set_option maxRecDepth 20000 in
theorem gX7_place_X7_rentOf : GoodIn wsX7_place (wsV RX7 203 RX7 yX7_rentOf wsX7_rentOf) := goodIn_app (goodIn_of _ (by decide +kernel)) ggX7_place_X7_rentOf
theorem dX7_place_0 : decode cX7_place 0 = .ok (.iload_n 1, 1) := by decide +kernel
theorem dX7_place_1 : decode cX7_place 1 = .ok (.i2l, 1) := by decide +kernel
theorem dX7_place_2 : decode cX7_place 2 = .ok (.lconst 0, 1) := by decide +kernel
theorem dX7_place_3 : decode cX7_place 3 = .ok (.ldc2_w 184, 3) := by decide +kernel
theorem dX7_place_6 : decode cX7_place 6 = .ok (.invokestatic 82, 3) := by decide +kernel
theorem dX7_place_9 : decode cX7_place 9 = .ok (.ifCond .ne 5, 3) := by decide +kernel
theorem dX7_place_12 : decode cX7_place 12 = .ok (.iconst (-1), 1) := by decide +kernel
theorem dX7_place_13 : decode cX7_place 13 = .ok (.ireturn, 1) := by decide +kernel
theorem dX7_place_14 : decode cX7_place 14 = .ok (.iconst 0, 1) := by decide +kernel
theorem dX7_place_15 : decode cX7_place 15 = .ok (.istore_n 2, 1) := by decide +kernel
theorem dX7_place_16 : decode cX7_place 16 = .ok (.bipush (-4), 2) := by decide +kernel
theorem dX7_place_18 : decode cX7_place 18 = .ok (.istore_n 3, 1) := by decide +kernel
theorem dX7_place_19 : decode cX7_place 19 = .ok (.iconst 0, 1) := by decide +kernel
theorem dX7_place_20 : decode cX7_place 20 = .ok (.istore 4, 2) := by decide +kernel
theorem dX7_place_22 : decode cX7_place 22 = .ok (.iload 4, 2) := by decide +kernel
theorem dX7_place_24 : decode cX7_place 24 = .ok (.bipush 40, 2) := by decide +kernel
theorem dX7_place_26 : decode cX7_place 26 = .ok (.if_icmp .gt 92, 3) := by decide +kernel
theorem dX7_place_29 : decode cX7_place 29 = .ok (.iload_n 1, 1) := by decide +kernel
theorem dX7_place_30 : decode cX7_place 30 = .ok (.iconst 2, 1) := by decide +kernel
theorem dX7_place_31 : decode cX7_place 31 = .ok (.if_icmp .ge 18, 3) := by decide +kernel
theorem dX7_place_34 : decode cX7_place 34 = .ok (.aload_n 0, 1) := by decide +kernel
theorem dX7_place_35 : decode cX7_place 35 = .ok (.iload 4, 2) := by decide +kernel
theorem dX7_place_37 : decode cX7_place 37 = .ok (.aload_n 0, 1) := by decide +kernel
theorem dX7_place_38 : decode cX7_place 38 = .ok (.getfield 43, 3) := by decide +kernel
theorem dX7_place_41 : decode cX7_place 41 = .ok (.iconst 0, 1) := by decide +kernel
theorem dX7_place_42 : decode cX7_place 42 = .ok (.iaload, 1) := by decide +kernel
theorem dX7_place_43 : decode cX7_place 43 = .ok (.invokevirtual 197, 3) := by decide +kernel
theorem dX7_place_46 : decode cX7_place 46 = .ok (.goto 15, 3) := by decide +kernel
theorem dX7_place_49 : decode cX7_place 49 = .ok (.aload_n 0, 1) := by decide +kernel
theorem dX7_place_50 : decode cX7_place 50 = .ok (.aload_n 0, 1) := by decide +kernel
theorem dX7_place_51 : decode cX7_place 51 = .ok (.getfield 40, 3) := by decide +kernel
theorem dX7_place_54 : decode cX7_place 54 = .ok (.iconst 0, 1) := by decide +kernel
theorem dX7_place_55 : decode cX7_place 55 = .ok (.iaload, 1) := by decide +kernel
theorem dX7_place_56 : decode cX7_place 56 = .ok (.iload 4, 2) := by decide +kernel
theorem dX7_place_58 : decode cX7_place 58 = .ok (.invokevirtual 197, 3) := by decide +kernel
theorem dX7_place_61 : decode cX7_place 61 = .ok (.istore 5, 2) := by decide +kernel
theorem dX7_place_63 : decode cX7_place 63 = .ok (.bipush 100, 2) := by decide +kernel
theorem dX7_place_65 : decode cX7_place 65 = .ok (.iload 5, 2) := by decide +kernel
theorem dX7_place_67 : decode cX7_place 67 = .ok (.imul, 1) := by decide +kernel
theorem dX7_place_68 : decode cX7_place 68 = .ok (.iload_n 1, 1) := by decide +kernel
theorem dX7_place_69 : decode cX7_place 69 = .ok (.iconst 2, 1) := by decide +kernel
theorem dX7_place_70 : decode cX7_place 70 = .ok (.if_icmp .ge 12, 3) := by decide +kernel
theorem dX7_place_73 : decode cX7_place 73 = .ok (.aload_n 0, 1) := by decide +kernel
theorem dX7_place_74 : decode cX7_place 74 = .ok (.iload 4, 2) := by decide +kernel
theorem dX7_place_76 : decode cX7_place 76 = .ok (.invokevirtual 203, 3) := by decide +kernel
theorem dX7_place_79 : decode cX7_place 79 = .ok (.goto 4, 3) := by decide +kernel
theorem dX7_place_82 : decode cX7_place 82 = .ok (.iconst 0, 1) := by decide +kernel
theorem dX7_place_83 : decode cX7_place 83 = .ok (.iadd, 1) := by decide +kernel
theorem dX7_place_84 : decode cX7_place 84 = .ok (.istore 6, 2) := by decide +kernel
theorem dX7_place_86 : decode cX7_place 86 = .ok (.iload 6, 2) := by decide +kernel
theorem dX7_place_88 : decode cX7_place 88 = .ok (.iload_n 3, 1) := by decide +kernel
theorem dX7_place_89 : decode cX7_place 89 = .ok (.if_icmp .le 8, 3) := by decide +kernel
theorem dX7_place_92 : decode cX7_place 92 = .ok (.iload 4, 2) := by decide +kernel
theorem dX7_place_94 : decode cX7_place 94 = .ok (.goto 4, 3) := by decide +kernel
theorem dX7_place_97 : decode cX7_place 97 = .ok (.iload_n 2, 1) := by decide +kernel
theorem dX7_place_98 : decode cX7_place 98 = .ok (.istore_n 2, 1) := by decide +kernel
theorem dX7_place_99 : decode cX7_place 99 = .ok (.iload 6, 2) := by decide +kernel
theorem dX7_place_101 : decode cX7_place 101 = .ok (.iload_n 3, 1) := by decide +kernel
theorem dX7_place_102 : decode cX7_place 102 = .ok (.if_icmp .le 8, 3) := by decide +kernel
theorem dX7_place_105 : decode cX7_place 105 = .ok (.iload 6, 2) := by decide +kernel
theorem dX7_place_107 : decode cX7_place 107 = .ok (.goto 4, 3) := by decide +kernel
theorem dX7_place_110 : decode cX7_place 110 = .ok (.iload_n 3, 1) := by decide +kernel
theorem dX7_place_111 : decode cX7_place 111 = .ok (.istore_n 3, 1) := by decide +kernel
theorem dX7_place_112 : decode cX7_place 112 = .ok (.iinc 4 1, 3) := by decide +kernel
theorem dX7_place_115 : decode cX7_place 115 = .ok (.goto (-93), 3) := by decide +kernel
theorem dX7_place_118 : decode cX7_place 118 = .ok (.iload_n 1, 1) := by decide +kernel
theorem dX7_place_119 : decode cX7_place 119 = .ok (.iconst 2, 1) := by decide +kernel
theorem dX7_place_120 : decode cX7_place 120 = .ok (.irem, 1) := by decide +kernel
theorem dX7_place_121 : decode cX7_place 121 = .ok (.ifCond .ne 7, 3) := by decide +kernel
theorem dX7_place_124 : decode cX7_place 124 = .ok (.iload_n 2, 1) := by decide +kernel
theorem dX7_place_125 : decode cX7_place 125 = .ok (.goto 7, 3) := by decide +kernel
theorem dX7_place_128 : decode cX7_place 128 = .ok (.iload_n 3, 1) := by decide +kernel
theorem dX7_place_129 : decode cX7_place 129 = .ok (.bipush 100, 2) := by decide +kernel
theorem dX7_place_131 : decode cX7_place 131 = .ok (.idiv, 1) := by decide +kernel
theorem dX7_place_132 : decode cX7_place 132 = .ok (.ireturn, 1) := by decide +kernel
theorem dX7_note_0 : decode cX7_note 0 = .ok (.aload_n 0, 1) := by decide +kernel
theorem dX7_note_1 : decode cX7_note 1 = .ok (.getfield 145, 3) := by decide +kernel
theorem dX7_note_4 : decode cX7_note 4 = .ok (.bipush 8, 2) := by decide +kernel
theorem dX7_note_6 : decode cX7_note 6 = .ok (.if_icmp .ne 41, 3) := by decide +kernel
theorem dX7_note_9 : decode cX7_note 9 = .ok (.iconst 0, 1) := by decide +kernel
theorem dX7_note_10 : decode cX7_note 10 = .ok (.istore_n 1, 1) := by decide +kernel
theorem dX7_note_11 : decode cX7_note 11 = .ok (.iload_n 1, 1) := by decide +kernel
theorem dX7_note_12 : decode cX7_note 12 = .ok (.bipush 28, 2) := by decide +kernel
theorem dX7_note_14 : decode cX7_note 14 = .ok (.if_icmp .ge 23, 3) := by decide +kernel
theorem dX7_note_17 : decode cX7_note 17 = .ok (.aload_n 0, 1) := by decide +kernel
theorem dX7_note_18 : decode cX7_note 18 = .ok (.getfield 49, 3) := by decide +kernel
theorem dX7_note_21 : decode cX7_note 21 = .ok (.iload_n 1, 1) := by decide +kernel
theorem dX7_note_22 : decode cX7_note 22 = .ok (.aload_n 0, 1) := by decide +kernel
theorem dX7_note_23 : decode cX7_note 23 = .ok (.getfield 49, 3) := by decide +kernel
theorem dX7_note_26 : decode cX7_note 26 = .ok (.iload_n 1, 1) := by decide +kernel
theorem dX7_note_27 : decode cX7_note 27 = .ok (.iconst 4, 1) := by decide +kernel
theorem dX7_note_28 : decode cX7_note 28 = .ok (.iadd, 1) := by decide +kernel
theorem dX7_note_29 : decode cX7_note 29 = .ok (.iaload, 1) := by decide +kernel
theorem dX7_note_30 : decode cX7_note 30 = .ok (.iastore, 1) := by decide +kernel
theorem dX7_note_31 : decode cX7_note 31 = .ok (.iinc 1 1, 3) := by decide +kernel
theorem dX7_note_34 : decode cX7_note 34 = .ok (.goto (-23), 3) := by decide +kernel
theorem dX7_note_37 : decode cX7_note 37 = .ok (.aload_n 0, 1) := by decide +kernel
theorem dX7_note_38 : decode cX7_note 38 = .ok (.dup, 1) := by decide +kernel
theorem dX7_note_39 : decode cX7_note 39 = .ok (.getfield 145, 3) := by decide +kernel
theorem dX7_note_42 : decode cX7_note 42 = .ok (.iconst 1, 1) := by decide +kernel
theorem dX7_note_43 : decode cX7_note 43 = .ok (.isub, 1) := by decide +kernel
theorem dX7_note_44 : decode cX7_note 44 = .ok (.putfield 145, 3) := by decide +kernel
theorem dX7_note_47 : decode cX7_note 47 = .ok (.aload_n 0, 1) := by decide +kernel
theorem dX7_note_48 : decode cX7_note 48 = .ok (.getfield 49, 3) := by decide +kernel
theorem dX7_note_51 : decode cX7_note 51 = .ok (.iconst 4, 1) := by decide +kernel
theorem dX7_note_52 : decode cX7_note 52 = .ok (.aload_n 0, 1) := by decide +kernel
theorem dX7_note_53 : decode cX7_note 53 = .ok (.getfield 145, 3) := by decide +kernel
theorem dX7_note_56 : decode cX7_note 56 = .ok (.imul, 1) := by decide +kernel
theorem dX7_note_57 : decode cX7_note 57 = .ok (.aload_n 0, 1) := by decide +kernel
theorem dX7_note_58 : decode cX7_note 58 = .ok (.getfield 40, 3) := by decide +kernel
theorem dX7_note_61 : decode cX7_note 61 = .ok (.iconst 0, 1) := by decide +kernel
theorem dX7_note_62 : decode cX7_note 62 = .ok (.iaload, 1) := by decide +kernel
theorem dX7_note_63 : decode cX7_note 63 = .ok (.iastore, 1) := by decide +kernel
theorem dX7_note_64 : decode cX7_note 64 = .ok (.aload_n 0, 1) := by decide +kernel
theorem dX7_note_65 : decode cX7_note 65 = .ok (.getfield 49, 3) := by decide +kernel
theorem dX7_note_68 : decode cX7_note 68 = .ok (.iconst 4, 1) := by decide +kernel
theorem dX7_note_69 : decode cX7_note 69 = .ok (.aload_n 0, 1) := by decide +kernel
theorem dX7_note_70 : decode cX7_note 70 = .ok (.getfield 145, 3) := by decide +kernel
theorem dX7_note_73 : decode cX7_note 73 = .ok (.imul, 1) := by decide +kernel
theorem dX7_note_74 : decode cX7_note 74 = .ok (.iconst 1, 1) := by decide +kernel
theorem dX7_note_75 : decode cX7_note 75 = .ok (.iadd, 1) := by decide +kernel
theorem dX7_note_76 : decode cX7_note 76 = .ok (.aload_n 0, 1) := by decide +kernel
theorem dX7_note_77 : decode cX7_note 77 = .ok (.getfield 43, 3) := by decide +kernel
theorem dX7_note_80 : decode cX7_note 80 = .ok (.iconst 0, 1) := by decide +kernel
theorem dX7_note_81 : decode cX7_note 81 = .ok (.iaload, 1) := by decide +kernel
theorem dX7_note_82 : decode cX7_note 82 = .ok (.iastore, 1) := by decide +kernel
theorem dX7_note_83 : decode cX7_note 83 = .ok (.aload_n 0, 1) := by decide +kernel
theorem dX7_note_84 : decode cX7_note 84 = .ok (.getfield 49, 3) := by decide +kernel
theorem dX7_note_87 : decode cX7_note 87 = .ok (.iconst 4, 1) := by decide +kernel
theorem dX7_note_88 : decode cX7_note 88 = .ok (.aload_n 0, 1) := by decide +kernel
theorem dX7_note_89 : decode cX7_note 89 = .ok (.getfield 145, 3) := by decide +kernel
theorem dX7_note_92 : decode cX7_note 92 = .ok (.imul, 1) := by decide +kernel
theorem dX7_note_93 : decode cX7_note 93 = .ok (.iconst 2, 1) := by decide +kernel
theorem dX7_note_94 : decode cX7_note 94 = .ok (.iadd, 1) := by decide +kernel
theorem dX7_note_95 : decode cX7_note 95 = .ok (.aload_n 0, 1) := by decide +kernel
theorem dX7_note_96 : decode cX7_note 96 = .ok (.getfield 46, 3) := by decide +kernel
theorem dX7_note_99 : decode cX7_note 99 = .ok (.iconst 0, 1) := by decide +kernel
theorem dX7_note_100 : decode cX7_note 100 = .ok (.iaload, 1) := by decide +kernel
theorem dX7_note_101 : decode cX7_note 101 = .ok (.iastore, 1) := by decide +kernel
theorem dX7_note_102 : decode cX7_note 102 = .ok (.aload_n 0, 1) := by decide +kernel
theorem dX7_note_103 : decode cX7_note 103 = .ok (.getfield 49, 3) := by decide +kernel
theorem dX7_note_106 : decode cX7_note 106 = .ok (.iconst 4, 1) := by decide +kernel
theorem dX7_note_107 : decode cX7_note 107 = .ok (.aload_n 0, 1) := by decide +kernel
theorem dX7_note_108 : decode cX7_note 108 = .ok (.getfield 145, 3) := by decide +kernel
theorem dX7_note_111 : decode cX7_note 111 = .ok (.imul, 1) := by decide +kernel
theorem dX7_note_112 : decode cX7_note 112 = .ok (.iconst 3, 1) := by decide +kernel
theorem dX7_note_113 : decode cX7_note 113 = .ok (.iadd, 1) := by decide +kernel
theorem dX7_note_114 : decode cX7_note 114 = .ok (.aload_n 0, 1) := by decide +kernel
theorem dX7_note_115 : decode cX7_note 115 = .ok (.getfield 28, 3) := by decide +kernel
theorem dX7_note_118 : decode cX7_note 118 = .ok (.iconst 0, 1) := by decide +kernel
theorem dX7_note_119 : decode cX7_note 119 = .ok (.iaload, 1) := by decide +kernel
theorem dX7_note_120 : decode cX7_note 120 = .ok (.iastore, 1) := by decide +kernel
theorem dX7_note_121 : decode cX7_note 121 = .ok (.aload_n 0, 1) := by decide +kernel
theorem dX7_note_122 : decode cX7_note 122 = .ok (.dup, 1) := by decide +kernel
theorem dX7_note_123 : decode cX7_note 123 = .ok (.getfield 145, 3) := by decide +kernel
theorem dX7_note_126 : decode cX7_note 126 = .ok (.iconst 1, 1) := by decide +kernel
theorem dX7_note_127 : decode cX7_note 127 = .ok (.iadd, 1) := by decide +kernel
theorem dX7_note_128 : decode cX7_note 128 = .ok (.putfield 145, 3) := by decide +kernel
theorem dX7_note_131 : decode cX7_note 131 = .ok (.return_, 1) := by decide +kernel
set_option maxRecDepth 20000 in
theorem ggX7_go_X7_in : GoodIn wsX7_go wsX7_in := goodIn_r _ [6] (by decide +kernel) (by decide +kernel)
set_option maxRecDepth 20000 in
theorem gX7_go_X7_in : GoodIn wsX7_go (va_wsS RX7 82 yX7_in wsX7_in) := goodIn_app (goodIn_of _ (by decide +kernel)) ggX7_go_X7_in
set_option maxRecDepth 20000 in
theorem ggX7_go_X7_isYard : GoodIn wsX7_go wsX7_isYard := goodIn_r _ [9, 10, 3, 4, 5, 6] (by decide +kernel) (by decide +kernel)
set_option maxRecDepth 20000 in
theorem gX7_go_X7_isYard : GoodIn wsX7_go (va_wsS RX7 117 yX7_isYard wsX7_isYard) := goodIn_app (goodIn_of _ (by decide +kernel)) ggX7_go_X7_isYard
set_option maxRecDepth 20000 in
theorem ggX7_go_X7_note : GoodIn wsX7_go wsX7_note := goodIn_r _ [14, 15, 16, 1, 2, 17, 18, 19, 20, 21, 22, 23, 24, 25, 26, 27, 28, 29, 30, 31, 32, 33, 34, 35, 36, 37, 38, 39, 40, 41, 42, 43, 44, 45, 46] (by decide +kernel) (by decide +kernel)
set_option maxRecDepth 20000 in
theorem gX7_go_X7_note : GoodIn wsX7_go (wsV RX7 206 RX7 yX7_note wsX7_note) := goodIn_app (goodIn_of _ (by decide +kernel)) ggX7_go_X7_note
theorem dX7_go_0 : decode cX7_go 0 = .ok (.iload_n 1, 1) := by decide +kernel
theorem dX7_go_1 : decode cX7_go 1 = .ok (.i2l, 1) := by decide +kernel
theorem dX7_go_2 : decode cX7_go 2 = .ok (.lconst 0, 1) := by decide +kernel
theorem dX7_go_3 : decode cX7_go 3 = .ok (.lconst 1, 1) := by decide +kernel
theorem dX7_go_4 : decode cX7_go 4 = .ok (.invokestatic 82, 3) := by decide +kernel
theorem dX7_go_7 : decode cX7_go 7 = .ok (.ifCond .eq 10, 3) := by decide +kernel
theorem dX7_go_10 : decode cX7_go 10 = .ok (.iload_n 2, 1) := by decide +kernel
theorem dX7_go_11 : decode cX7_go 11 = .ok (.invokestatic 117, 3) := by decide +kernel
theorem dX7_go_14 : decode cX7_go 14 = .ok (.ifCond .ne 5, 3) := by decide +kernel
theorem dX7_go_17 : decode cX7_go 17 = .ok (.iconst (-1), 1) := by decide +kernel
theorem dX7_go_18 : decode cX7_go 18 = .ok (.ireturn, 1) := by decide +kernel
theorem dX7_go_19 : decode cX7_go 19 = .ok (.aload_n 0, 1) := by decide +kernel
theorem dX7_go_20 : decode cX7_go 20 = .ok (.invokevirtual 206, 3) := by decide +kernel
theorem dX7_go_23 : decode cX7_go 23 = .ok (.iload_n 1, 1) := by decide +kernel
theorem dX7_go_24 : decode cX7_go 24 = .ok (.ifCond .ne 12, 3) := by decide +kernel
theorem dX7_go_27 : decode cX7_go 27 = .ok (.aload_n 0, 1) := by decide +kernel
theorem dX7_go_28 : decode cX7_go 28 = .ok (.getfield 40, 3) := by decide +kernel
theorem dX7_go_31 : decode cX7_go 31 = .ok (.iconst 0, 1) := by decide +kernel
theorem dX7_go_32 : decode cX7_go 32 = .ok (.iaload, 1) := by decide +kernel
theorem dX7_go_33 : decode cX7_go 33 = .ok (.goto 9, 3) := by decide +kernel
theorem dX7_go_36 : decode cX7_go 36 = .ok (.aload_n 0, 1) := by decide +kernel
theorem dX7_go_37 : decode cX7_go 37 = .ok (.getfield 43, 3) := by decide +kernel
theorem dX7_go_40 : decode cX7_go 40 = .ok (.iconst 0, 1) := by decide +kernel
theorem dX7_go_41 : decode cX7_go 41 = .ok (.iaload, 1) := by decide +kernel
theorem dX7_go_42 : decode cX7_go 42 = .ok (.istore_n 3, 1) := by decide +kernel
theorem dX7_go_43 : decode cX7_go 43 = .ok (.iload_n 1, 1) := by decide +kernel
theorem dX7_go_44 : decode cX7_go 44 = .ok (.ifCond .ne 13, 3) := by decide +kernel
theorem dX7_go_47 : decode cX7_go 47 = .ok (.aload_n 0, 1) := by decide +kernel
theorem dX7_go_48 : decode cX7_go 48 = .ok (.getfield 40, 3) := by decide +kernel
theorem dX7_go_51 : decode cX7_go 51 = .ok (.iconst 0, 1) := by decide +kernel
theorem dX7_go_52 : decode cX7_go 52 = .ok (.iload_n 2, 1) := by decide +kernel
theorem dX7_go_53 : decode cX7_go 53 = .ok (.iastore, 1) := by decide +kernel
theorem dX7_go_54 : decode cX7_go 54 = .ok (.goto 10, 3) := by decide +kernel
theorem dX7_go_57 : decode cX7_go 57 = .ok (.aload_n 0, 1) := by decide +kernel
theorem dX7_go_58 : decode cX7_go 58 = .ok (.getfield 43, 3) := by decide +kernel
theorem dX7_go_61 : decode cX7_go 61 = .ok (.iconst 0, 1) := by decide +kernel
theorem dX7_go_62 : decode cX7_go 62 = .ok (.iload_n 2, 1) := by decide +kernel
theorem dX7_go_63 : decode cX7_go 63 = .ok (.iastore, 1) := by decide +kernel
theorem dX7_go_64 : decode cX7_go 64 = .ok (.iload_n 3, 1) := by decide +kernel
theorem dX7_go_65 : decode cX7_go 65 = .ok (.ireturn, 1) := by decide +kernel
set_option maxRecDepth 20000 in
theorem ggX7_snow_X7_in : GoodIn wsX7_snow wsX7_in := goodIn_r _ [6] (by decide +kernel) (by decide +kernel)
set_option maxRecDepth 20000 in
theorem gX7_snow_X7_in : GoodIn wsX7_snow (va_wsS RX7 82 yX7_in wsX7_in) := goodIn_app (goodIn_of _ (by decide +kernel)) ggX7_snow_X7_in
set_option maxRecDepth 20000 in
theorem ggX7_snow_X7_note : GoodIn wsX7_snow wsX7_note := goodIn_r _ [10, 11, 12, 13, 14, 2, 15, 16, 17, 18, 19, 20, 21, 22, 23, 24, 25, 26, 27, 28, 29, 30, 31, 32, 33, 34, 35, 36, 37, 38, 39, 40, 41, 42, 43] (by decide +kernel) (by decide +kernel)
set_option maxRecDepth 20000 in
theorem gX7_snow_X7_note : GoodIn wsX7_snow (wsV RX7 206 RX7 yX7_note wsX7_note) := goodIn_app (goodIn_of _ (by decide +kernel)) ggX7_snow_X7_note
theorem dX7_snow_0 : decode cX7_snow 0 = .ok (.iload_n 1, 1) := by decide +kernel
theorem dX7_snow_1 : decode cX7_snow 1 = .ok (.i2l, 1) := by decide +kernel
theorem dX7_snow_2 : decode cX7_snow 2 = .ok (.lconst 0, 1) := by decide +kernel
theorem dX7_snow_3 : decode cX7_snow 3 = .ok (.iconst 1, 1) := by decide +kernel
theorem dX7_snow_4 : decode cX7_snow 4 = .ok (.aload_n 0, 1) := by decide +kernel
theorem dX7_snow_5 : decode cX7_snow 5 = .ok (.getfield 13, 3) := by decide +kernel
theorem dX7_snow_8 : decode cX7_snow 8 = .ok (.iconst 0, 1) := by decide +kernel
theorem dX7_snow_9 : decode cX7_snow 9 = .ok (.iaload, 1) := by decide +kernel
theorem dX7_snow_10 : decode cX7_snow 10 = .ok (.ishl, 1) := by decide +kernel
theorem dX7_snow_11 : decode cX7_snow 11 = .ok (.iconst 1, 1) := by decide +kernel
theorem dX7_snow_12 : decode cX7_snow 12 = .ok (.isub, 1) := by decide +kernel
theorem dX7_snow_13 : decode cX7_snow 13 = .ok (.i2l, 1) := by decide +kernel
theorem dX7_snow_14 : decode cX7_snow 14 = .ok (.invokestatic 82, 3) := by decide +kernel
theorem dX7_snow_17 : decode cX7_snow 17 = .ok (.ifCond .ne 5, 3) := by decide +kernel
theorem dX7_snow_20 : decode cX7_snow 20 = .ok (.iconst (-1), 1) := by decide +kernel
theorem dX7_snow_21 : decode cX7_snow 21 = .ok (.ireturn, 1) := by decide +kernel
theorem dX7_snow_22 : decode cX7_snow 22 = .ok (.aload_n 0, 1) := by decide +kernel
theorem dX7_snow_23 : decode cX7_snow 23 = .ok (.invokevirtual 206, 3) := by decide +kernel
theorem dX7_snow_26 : decode cX7_snow 26 = .ok (.aload_n 0, 1) := by decide +kernel
theorem dX7_snow_27 : decode cX7_snow 27 = .ok (.getfield 46, 3) := by decide +kernel
theorem dX7_snow_30 : decode cX7_snow 30 = .ok (.iconst 0, 1) := by decide +kernel
theorem dX7_snow_31 : decode cX7_snow 31 = .ok (.iaload, 1) := by decide +kernel
theorem dX7_snow_32 : decode cX7_snow 32 = .ok (.istore_n 2, 1) := by decide +kernel
theorem dX7_snow_33 : decode cX7_snow 33 = .ok (.aload_n 0, 1) := by decide +kernel
theorem dX7_snow_34 : decode cX7_snow 34 = .ok (.getfield 46, 3) := by decide +kernel
theorem dX7_snow_37 : decode cX7_snow 37 = .ok (.iconst 0, 1) := by decide +kernel
theorem dX7_snow_38 : decode cX7_snow 38 = .ok (.iload_n 1, 1) := by decide +kernel
theorem dX7_snow_39 : decode cX7_snow 39 = .ok (.iastore, 1) := by decide +kernel
theorem dX7_snow_40 : decode cX7_snow 40 = .ok (.iload_n 2, 1) := by decide +kernel
theorem dX7_snow_41 : decode cX7_snow 41 = .ok (.ireturn, 1) := by decide +kernel
set_option maxRecDepth 20000 in
theorem ggX7_say_X7_isWord : GoodIn wsX7_say wsX7_isWord := goodIn_r _ [5, 6, 7, 8, 9, 10, 4, 11] (by decide +kernel) (by decide +kernel)
set_option maxRecDepth 20000 in
theorem gX7_say_X7_isWord : GoodIn wsX7_say (va_wsS RX7 120 yX7_isWord wsX7_isWord) := goodIn_app (goodIn_of _ (by decide +kernel)) ggX7_say_X7_isWord
set_option maxRecDepth 20000 in
theorem ggX7_say_X7_note : GoodIn wsX7_say wsX7_note := goodIn_r _ [15, 16, 17, 18, 19, 20, 1, 28, 29, 30, 31, 32, 33, 34, 35, 36, 37, 38, 39, 40, 41, 42, 43, 44, 45, 46, 47, 48, 49, 50, 51, 52, 53, 54, 55] (by decide +kernel) (by decide +kernel)
set_option maxRecDepth 20000 in
theorem gX7_say_X7_note : GoodIn wsX7_say (wsV RX7 206 RX7 yX7_note wsX7_note) := goodIn_app (goodIn_of _ (by decide +kernel)) ggX7_say_X7_note
set_option maxRecDepth 20000 in
theorem ggX7_say_X7_addWord : GoodIn wsX7_say wsX7_addWord := goodIn_r _ [24, 25, 1, 26, 27, 28, 29, 30, 31, 32, 33, 34, 35, 36, 37, 38, 39, 40, 41, 42, 43, 44, 45, 46, 47, 48, 49, 50, 51, 52, 53, 54, 55] (by decide +kernel) (by decide +kernel)
set_option maxRecDepth 20000 in
theorem gX7_say_X7_addWord : GoodIn wsX7_say (wsV RX7 124 RX7 yX7_addWord wsX7_addWord) := goodIn_app (goodIn_of _ (by decide +kernel)) ggX7_say_X7_addWord
theorem dX7_say_0 : decode cX7_say 0 = .ok (.iload_n 1, 1) := by decide +kernel
theorem dX7_say_1 : decode cX7_say 1 = .ok (.iload_n 2, 1) := by decide +kernel
theorem dX7_say_2 : decode cX7_say 2 = .ok (.iload_n 3, 1) := by decide +kernel
theorem dX7_say_3 : decode cX7_say 3 = .ok (.invokestatic 120, 3) := by decide +kernel
theorem dX7_say_6 : decode cX7_say 6 = .ok (.ifCond .ne 5, 3) := by decide +kernel
theorem dX7_say_9 : decode cX7_say 9 = .ok (.iconst (-1), 1) := by decide +kernel
theorem dX7_say_10 : decode cX7_say 10 = .ok (.ireturn, 1) := by decide +kernel
theorem dX7_say_11 : decode cX7_say 11 = .ok (.aload_n 0, 1) := by decide +kernel
theorem dX7_say_12 : decode cX7_say 12 = .ok (.getfield 28, 3) := by decide +kernel
theorem dX7_say_15 : decode cX7_say 15 = .ok (.iconst 0, 1) := by decide +kernel
theorem dX7_say_16 : decode cX7_say 16 = .ok (.iaload, 1) := by decide +kernel
theorem dX7_say_17 : decode cX7_say 17 = .ok (.bipush 8, 2) := by decide +kernel
theorem dX7_say_19 : decode cX7_say 19 = .ok (.if_icmp .ne 6, 3) := by decide +kernel
theorem dX7_say_22 : decode cX7_say 22 = .ok (.bipush (-3), 2) := by decide +kernel
theorem dX7_say_24 : decode cX7_say 24 = .ok (.ireturn, 1) := by decide +kernel
theorem dX7_say_25 : decode cX7_say 25 = .ok (.aload_n 0, 1) := by decide +kernel
theorem dX7_say_26 : decode cX7_say 26 = .ok (.invokevirtual 206, 3) := by decide +kernel
theorem dX7_say_29 : decode cX7_say 29 = .ok (.aload_n 0, 1) := by decide +kernel
theorem dX7_say_30 : decode cX7_say 30 = .ok (.iconst 0, 1) := by decide +kernel
theorem dX7_say_31 : decode cX7_say 31 = .ok (.iload_n 1, 1) := by decide +kernel
theorem dX7_say_32 : decode cX7_say 32 = .ok (.iload_n 2, 1) := by decide +kernel
theorem dX7_say_33 : decode cX7_say 33 = .ok (.iload_n 3, 1) := by decide +kernel
theorem dX7_say_34 : decode cX7_say 34 = .ok (.invokevirtual 124, 3) := by decide +kernel
theorem dX7_say_37 : decode cX7_say 37 = .ok (.aload_n 0, 1) := by decide +kernel
theorem dX7_say_38 : decode cX7_say 38 = .ok (.getfield 28, 3) := by decide +kernel
theorem dX7_say_41 : decode cX7_say 41 = .ok (.iconst 0, 1) := by decide +kernel
theorem dX7_say_42 : decode cX7_say 42 = .ok (.iaload, 1) := by decide +kernel
theorem dX7_say_43 : decode cX7_say 43 = .ok (.ireturn, 1) := by decide +kernel
theorem dX7_undo_0 : decode cX7_undo 0 = .ok (.aload_n 0, 1) := by decide +kernel
theorem dX7_undo_1 : decode cX7_undo 1 = .ok (.getfield 145, 3) := by decide +kernel
theorem dX7_undo_4 : decode cX7_undo 4 = .ok (.ifCond .ne 6, 3) := by decide +kernel
theorem dX7_undo_7 : decode cX7_undo 7 = .ok (.bipush (-2), 2) := by decide +kernel
theorem dX7_undo_9 : decode cX7_undo 9 = .ok (.ireturn, 1) := by decide +kernel
theorem dX7_undo_10 : decode cX7_undo 10 = .ok (.aload_n 0, 1) := by decide +kernel
theorem dX7_undo_11 : decode cX7_undo 11 = .ok (.dup, 1) := by decide +kernel
theorem dX7_undo_12 : decode cX7_undo 12 = .ok (.getfield 145, 3) := by decide +kernel
theorem dX7_undo_15 : decode cX7_undo 15 = .ok (.iconst 1, 1) := by decide +kernel
theorem dX7_undo_16 : decode cX7_undo 16 = .ok (.isub, 1) := by decide +kernel
theorem dX7_undo_17 : decode cX7_undo 17 = .ok (.putfield 145, 3) := by decide +kernel
theorem dX7_undo_20 : decode cX7_undo 20 = .ok (.aload_n 0, 1) := by decide +kernel
theorem dX7_undo_21 : decode cX7_undo 21 = .ok (.getfield 40, 3) := by decide +kernel
theorem dX7_undo_24 : decode cX7_undo 24 = .ok (.iconst 0, 1) := by decide +kernel
theorem dX7_undo_25 : decode cX7_undo 25 = .ok (.aload_n 0, 1) := by decide +kernel
theorem dX7_undo_26 : decode cX7_undo 26 = .ok (.getfield 49, 3) := by decide +kernel
theorem dX7_undo_29 : decode cX7_undo 29 = .ok (.iconst 4, 1) := by decide +kernel
theorem dX7_undo_30 : decode cX7_undo 30 = .ok (.aload_n 0, 1) := by decide +kernel
theorem dX7_undo_31 : decode cX7_undo 31 = .ok (.getfield 145, 3) := by decide +kernel
theorem dX7_undo_34 : decode cX7_undo 34 = .ok (.imul, 1) := by decide +kernel
theorem dX7_undo_35 : decode cX7_undo 35 = .ok (.iaload, 1) := by decide +kernel
theorem dX7_undo_36 : decode cX7_undo 36 = .ok (.iastore, 1) := by decide +kernel
theorem dX7_undo_37 : decode cX7_undo 37 = .ok (.aload_n 0, 1) := by decide +kernel
theorem dX7_undo_38 : decode cX7_undo 38 = .ok (.getfield 43, 3) := by decide +kernel
theorem dX7_undo_41 : decode cX7_undo 41 = .ok (.iconst 0, 1) := by decide +kernel
theorem dX7_undo_42 : decode cX7_undo 42 = .ok (.aload_n 0, 1) := by decide +kernel
theorem dX7_undo_43 : decode cX7_undo 43 = .ok (.getfield 49, 3) := by decide +kernel
theorem dX7_undo_46 : decode cX7_undo 46 = .ok (.iconst 4, 1) := by decide +kernel
theorem dX7_undo_47 : decode cX7_undo 47 = .ok (.aload_n 0, 1) := by decide +kernel
theorem dX7_undo_48 : decode cX7_undo 48 = .ok (.getfield 145, 3) := by decide +kernel
theorem dX7_undo_51 : decode cX7_undo 51 = .ok (.imul, 1) := by decide +kernel
theorem dX7_undo_52 : decode cX7_undo 52 = .ok (.iconst 1, 1) := by decide +kernel
theorem dX7_undo_53 : decode cX7_undo 53 = .ok (.iadd, 1) := by decide +kernel
theorem dX7_undo_54 : decode cX7_undo 54 = .ok (.iaload, 1) := by decide +kernel
theorem dX7_undo_55 : decode cX7_undo 55 = .ok (.iastore, 1) := by decide +kernel
theorem dX7_undo_56 : decode cX7_undo 56 = .ok (.aload_n 0, 1) := by decide +kernel
theorem dX7_undo_57 : decode cX7_undo 57 = .ok (.getfield 46, 3) := by decide +kernel
theorem dX7_undo_60 : decode cX7_undo 60 = .ok (.iconst 0, 1) := by decide +kernel
theorem dX7_undo_61 : decode cX7_undo 61 = .ok (.aload_n 0, 1) := by decide +kernel
theorem dX7_undo_62 : decode cX7_undo 62 = .ok (.getfield 49, 3) := by decide +kernel
theorem dX7_undo_65 : decode cX7_undo 65 = .ok (.iconst 4, 1) := by decide +kernel
theorem dX7_undo_66 : decode cX7_undo 66 = .ok (.aload_n 0, 1) := by decide +kernel
theorem dX7_undo_67 : decode cX7_undo 67 = .ok (.getfield 145, 3) := by decide +kernel
theorem dX7_undo_70 : decode cX7_undo 70 = .ok (.imul, 1) := by decide +kernel
theorem dX7_undo_71 : decode cX7_undo 71 = .ok (.iconst 2, 1) := by decide +kernel
theorem dX7_undo_72 : decode cX7_undo 72 = .ok (.iadd, 1) := by decide +kernel
theorem dX7_undo_73 : decode cX7_undo 73 = .ok (.iaload, 1) := by decide +kernel
theorem dX7_undo_74 : decode cX7_undo 74 = .ok (.iastore, 1) := by decide +kernel
theorem dX7_undo_75 : decode cX7_undo 75 = .ok (.aload_n 0, 1) := by decide +kernel
theorem dX7_undo_76 : decode cX7_undo 76 = .ok (.getfield 28, 3) := by decide +kernel
theorem dX7_undo_79 : decode cX7_undo 79 = .ok (.iconst 0, 1) := by decide +kernel
theorem dX7_undo_80 : decode cX7_undo 80 = .ok (.aload_n 0, 1) := by decide +kernel
theorem dX7_undo_81 : decode cX7_undo 81 = .ok (.getfield 49, 3) := by decide +kernel
theorem dX7_undo_84 : decode cX7_undo 84 = .ok (.iconst 4, 1) := by decide +kernel
theorem dX7_undo_85 : decode cX7_undo 85 = .ok (.aload_n 0, 1) := by decide +kernel
theorem dX7_undo_86 : decode cX7_undo 86 = .ok (.getfield 145, 3) := by decide +kernel
theorem dX7_undo_89 : decode cX7_undo 89 = .ok (.imul, 1) := by decide +kernel
theorem dX7_undo_90 : decode cX7_undo 90 = .ok (.iconst 3, 1) := by decide +kernel
theorem dX7_undo_91 : decode cX7_undo 91 = .ok (.iadd, 1) := by decide +kernel
theorem dX7_undo_92 : decode cX7_undo 92 = .ok (.iaload, 1) := by decide +kernel
theorem dX7_undo_93 : decode cX7_undo 93 = .ok (.iastore, 1) := by decide +kernel
theorem dX7_undo_94 : decode cX7_undo 94 = .ok (.aload_n 0, 1) := by decide +kernel
theorem dX7_undo_95 : decode cX7_undo 95 = .ok (.getfield 145, 3) := by decide +kernel
theorem dX7_undo_98 : decode cX7_undo 98 = .ok (.ireturn, 1) := by decide +kernel
set_option maxRecDepth 20000 in
theorem ggX7_leftOut_X7_allWords : GoodIn wsX7_leftOut wsX7_allWords := goodIn_r _ [7, 8, 61, 62, 63, 64, 65, 66, 67, 68, 69, 70, 71, 72, 73, 74, 75, 76, 77, 78, 79, 80, 81, 82, 83, 84, 85, 86, 87, 88] (by decide +kernel) (by decide +kernel)
set_option maxRecDepth 20000 in
theorem gX7_leftOut_X7_allWords : GoodIn wsX7_leftOut (wsV RX7 209 RX7 yX7_allWords wsX7_allWords) := goodIn_app (goodIn_of _ (by decide +kernel)) ggX7_leftOut_X7_allWords
set_option maxRecDepth 20000 in
theorem ggX7_leftOut_X7_sayAll : GoodIn wsX7_leftOut wsX7_sayAll := goodIn_r _ [12, 8, 13, 14, 15, 16, 17, 18, 6, 19, 20, 21, 22, 23, 24, 25, 26, 27, 28, 29, 30, 31, 32, 33, 34, 35, 36, 37, 38, 39, 40, 41, 42, 43, 44, 45, 46, 47, 48, 49, 61, 62, 63, 64, 65, 66, 67, 68, 69, 70, 71, 72, 73, 74, 75, 76, 77, 78, 79, 80, 81, 82, 83, 84, 85, 86, 87, 88] (by decide +kernel) (by decide +kernel)
set_option maxRecDepth 20000 in
theorem gX7_leftOut_X7_sayAll : GoodIn wsX7_leftOut (wsV RX7 186 RX7 yX7_sayAll wsX7_sayAll) := goodIn_app (goodIn_of _ (by decide +kernel)) ggX7_leftOut_X7_sayAll
set_option maxRecDepth 20000 in
theorem ggX7_leftOut_X7_clearOf : GoodIn wsX7_leftOut wsX7_clearOf := goodIn_r _ [53, 8, 54, 55, 56, 6, 57, 13, 15, 29, 21, 14, 33, 34, 35, 61, 62, 63, 64, 65, 66, 67, 68, 69, 70, 71, 72, 73, 74, 75, 76, 77, 78, 79, 80, 81, 82, 83, 84, 85, 86, 87, 88] (by decide +kernel) (by decide +kernel)
set_option maxRecDepth 20000 in
theorem gX7_leftOut_X7_clearOf : GoodIn wsX7_leftOut (wsV RX7 191 RX7 yX7_clearOf wsX7_clearOf) := goodIn_app (goodIn_of _ (by decide +kernel)) ggX7_leftOut_X7_clearOf
set_option maxRecDepth 20000 in
theorem ggX7_leftOut_X7_bits : GoodIn wsX7_leftOut wsX7_bits := goodIn_r _ [60] (by decide +kernel) (by decide +kernel)
set_option maxRecDepth 20000 in
theorem gX7_leftOut_X7_bits : GoodIn wsX7_leftOut (va_wsS RX7 194 yX7_bits wsX7_bits) := goodIn_app (goodIn_of _ (by decide +kernel)) ggX7_leftOut_X7_bits
theorem dX7_leftOut_0 : decode cX7_leftOut 0 = .ok (.bipush (-4), 2) := by decide +kernel
theorem dX7_leftOut_2 : decode cX7_leftOut 2 = .ok (.istore_n 1, 1) := by decide +kernel
theorem dX7_leftOut_3 : decode cX7_leftOut 3 = .ok (.iconst 0, 1) := by decide +kernel
theorem dX7_leftOut_4 : decode cX7_leftOut 4 = .ok (.istore_n 2, 1) := by decide +kernel
theorem dX7_leftOut_5 : decode cX7_leftOut 5 = .ok (.iload_n 2, 1) := by decide +kernel
theorem dX7_leftOut_6 : decode cX7_leftOut 6 = .ok (.aload_n 0, 1) := by decide +kernel
theorem dX7_leftOut_7 : decode cX7_leftOut 7 = .ok (.invokevirtual 209, 3) := by decide +kernel
theorem dX7_leftOut_10 : decode cX7_leftOut 10 = .ok (.if_icmp .gt 87, 3) := by decide +kernel
theorem dX7_leftOut_13 : decode cX7_leftOut 13 = .ok (.aload_n 0, 1) := by decide +kernel
theorem dX7_leftOut_14 : decode cX7_leftOut 14 = .ok (.aload_n 0, 1) := by decide +kernel
theorem dX7_leftOut_15 : decode cX7_leftOut 15 = .ok (.getfield 40, 3) := by decide +kernel
theorem dX7_leftOut_18 : decode cX7_leftOut 18 = .ok (.iconst 0, 1) := by decide +kernel
theorem dX7_leftOut_19 : decode cX7_leftOut 19 = .ok (.iaload, 1) := by decide +kernel
theorem dX7_leftOut_20 : decode cX7_leftOut 20 = .ok (.aload_n 0, 1) := by decide +kernel
theorem dX7_leftOut_21 : decode cX7_leftOut 21 = .ok (.getfield 43, 3) := by decide +kernel
theorem dX7_leftOut_24 : decode cX7_leftOut 24 = .ok (.iconst 0, 1) := by decide +kernel
theorem dX7_leftOut_25 : decode cX7_leftOut 25 = .ok (.iaload, 1) := by decide +kernel
theorem dX7_leftOut_26 : decode cX7_leftOut 26 = .ok (.iload_n 2, 1) := by decide +kernel
theorem dX7_leftOut_27 : decode cX7_leftOut 27 = .ok (.invokevirtual 186, 3) := by decide +kernel
theorem dX7_leftOut_30 : decode cX7_leftOut 30 = .ok (.aload_n 0, 1) := by decide +kernel
theorem dX7_leftOut_31 : decode cX7_leftOut 31 = .ok (.invokevirtual 209, 3) := by decide +kernel
theorem dX7_leftOut_34 : decode cX7_leftOut 34 = .ok (.iload_n 2, 1) := by decide +kernel
theorem dX7_leftOut_35 : decode cX7_leftOut 35 = .ok (.iconst (-1), 1) := by decide +kernel
theorem dX7_leftOut_36 : decode cX7_leftOut 36 = .ok (.ixor, 1) := by decide +kernel
theorem dX7_leftOut_37 : decode cX7_leftOut 37 = .ok (.iand, 1) := by decide +kernel
theorem dX7_leftOut_38 : decode cX7_leftOut 38 = .ok (.aload_n 0, 1) := by decide +kernel
theorem dX7_leftOut_39 : decode cX7_leftOut 39 = .ok (.aload_n 0, 1) := by decide +kernel
theorem dX7_leftOut_40 : decode cX7_leftOut 40 = .ok (.getfield 40, 3) := by decide +kernel
theorem dX7_leftOut_43 : decode cX7_leftOut 43 = .ok (.iconst 0, 1) := by decide +kernel
theorem dX7_leftOut_44 : decode cX7_leftOut 44 = .ok (.iaload, 1) := by decide +kernel
theorem dX7_leftOut_45 : decode cX7_leftOut 45 = .ok (.aload_n 0, 1) := by decide +kernel
theorem dX7_leftOut_46 : decode cX7_leftOut 46 = .ok (.getfield 43, 3) := by decide +kernel
theorem dX7_leftOut_49 : decode cX7_leftOut 49 = .ok (.iconst 0, 1) := by decide +kernel
theorem dX7_leftOut_50 : decode cX7_leftOut 50 = .ok (.iaload, 1) := by decide +kernel
theorem dX7_leftOut_51 : decode cX7_leftOut 51 = .ok (.invokevirtual 191, 3) := by decide +kernel
theorem dX7_leftOut_54 : decode cX7_leftOut 54 = .ok (.iconst (-1), 1) := by decide +kernel
theorem dX7_leftOut_55 : decode cX7_leftOut 55 = .ok (.ixor, 1) := by decide +kernel
theorem dX7_leftOut_56 : decode cX7_leftOut 56 = .ok (.iand, 1) := by decide +kernel
theorem dX7_leftOut_57 : decode cX7_leftOut 57 = .ok (.ifCond .ne 7, 3) := by decide +kernel
theorem dX7_leftOut_60 : decode cX7_leftOut 60 = .ok (.iconst 1, 1) := by decide +kernel
theorem dX7_leftOut_61 : decode cX7_leftOut 61 = .ok (.goto 4, 3) := by decide +kernel
theorem dX7_leftOut_64 : decode cX7_leftOut 64 = .ok (.iconst 0, 1) := by decide +kernel
theorem dX7_leftOut_65 : decode cX7_leftOut 65 = .ok (.istore_n 3, 1) := by decide +kernel
theorem dX7_leftOut_66 : decode cX7_leftOut 66 = .ok (.iload_n 3, 1) := by decide +kernel
theorem dX7_leftOut_67 : decode cX7_leftOut 67 = .ok (.ifCond .eq 22, 3) := by decide +kernel
theorem dX7_leftOut_70 : decode cX7_leftOut 70 = .ok (.iload_n 1, 1) := by decide +kernel
theorem dX7_leftOut_71 : decode cX7_leftOut 71 = .ok (.ifCond .lt 14, 3) := by decide +kernel
theorem dX7_leftOut_74 : decode cX7_leftOut 74 = .ok (.iload_n 2, 1) := by decide +kernel
theorem dX7_leftOut_75 : decode cX7_leftOut 75 = .ok (.invokestatic 194, 3) := by decide +kernel
theorem dX7_leftOut_78 : decode cX7_leftOut 78 = .ok (.iload_n 1, 1) := by decide +kernel
theorem dX7_leftOut_79 : decode cX7_leftOut 79 = .ok (.invokestatic 194, 3) := by decide +kernel
theorem dX7_leftOut_82 : decode cX7_leftOut 82 = .ok (.if_icmp .ge 7, 3) := by decide +kernel
theorem dX7_leftOut_85 : decode cX7_leftOut 85 = .ok (.iload_n 2, 1) := by decide +kernel
theorem dX7_leftOut_86 : decode cX7_leftOut 86 = .ok (.goto 4, 3) := by decide +kernel
theorem dX7_leftOut_89 : decode cX7_leftOut 89 = .ok (.iload_n 1, 1) := by decide +kernel
theorem dX7_leftOut_90 : decode cX7_leftOut 90 = .ok (.istore_n 1, 1) := by decide +kernel
theorem dX7_leftOut_91 : decode cX7_leftOut 91 = .ok (.iinc 2 1, 3) := by decide +kernel
theorem dX7_leftOut_94 : decode cX7_leftOut 94 = .ok (.goto (-89), 3) := by decide +kernel
theorem dX7_leftOut_97 : decode cX7_leftOut 97 = .ok (.iload_n 1, 1) := by decide +kernel
theorem dX7_leftOut_98 : decode cX7_leftOut 98 = .ok (.ireturn, 1) := by decide +kernel
set_option maxRecDepth 20000 in
theorem ggX7_talk_X7_in : GoodIn wsX7_talk wsX7_in := goodIn_r _ [7] (by decide +kernel) (by decide +kernel)
set_option maxRecDepth 20000 in
theorem gX7_talk_X7_in : GoodIn wsX7_talk (va_wsS RX7 82 yX7_in wsX7_in) := goodIn_app (goodIn_of _ (by decide +kernel)) ggX7_talk_X7_in
theorem dX7_talk_0 : decode cX7_talk 0 = .ok (.iload_n 1, 1) := by decide +kernel
theorem dX7_talk_1 : decode cX7_talk 1 = .ok (.i2l, 1) := by decide +kernel
theorem dX7_talk_2 : decode cX7_talk 2 = .ok (.lconst 0, 1) := by decide +kernel
theorem dX7_talk_3 : decode cX7_talk 3 = .ok (.ldc2_w 184, 3) := by decide +kernel
theorem dX7_talk_6 : decode cX7_talk 6 = .ok (.invokestatic 82, 3) := by decide +kernel
theorem dX7_talk_9 : decode cX7_talk 9 = .ok (.ifCond .ne 5, 3) := by decide +kernel
theorem dX7_talk_12 : decode cX7_talk 12 = .ok (.iconst (-1), 1) := by decide +kernel
theorem dX7_talk_13 : decode cX7_talk 13 = .ok (.ireturn, 1) := by decide +kernel
theorem dX7_talk_14 : decode cX7_talk 14 = .ok (.aload_n 0, 1) := by decide +kernel
theorem dX7_talk_15 : decode cX7_talk 15 = .ok (.getfield 148, 3) := by decide +kernel
theorem dX7_talk_18 : decode cX7_talk 18 = .ok (.bipush 6, 2) := by decide +kernel
theorem dX7_talk_20 : decode cX7_talk 20 = .ok (.if_icmp .ne 6, 3) := by decide +kernel
theorem dX7_talk_23 : decode cX7_talk 23 = .ok (.bipush (-3), 2) := by decide +kernel
theorem dX7_talk_25 : decode cX7_talk 25 = .ok (.ireturn, 1) := by decide +kernel
theorem dX7_talk_26 : decode cX7_talk 26 = .ok (.aload_n 0, 1) := by decide +kernel
theorem dX7_talk_27 : decode cX7_talk 27 = .ok (.getfield 52, 3) := by decide +kernel
theorem dX7_talk_30 : decode cX7_talk 30 = .ok (.aload_n 0, 1) := by decide +kernel
theorem dX7_talk_31 : decode cX7_talk 31 = .ok (.getfield 148, 3) := by decide +kernel
theorem dX7_talk_34 : decode cX7_talk 34 = .ok (.iload_n 1, 1) := by decide +kernel
theorem dX7_talk_35 : decode cX7_talk 35 = .ok (.iastore, 1) := by decide +kernel
theorem dX7_talk_36 : decode cX7_talk 36 = .ok (.aload_n 0, 1) := by decide +kernel
theorem dX7_talk_37 : decode cX7_talk 37 = .ok (.dup, 1) := by decide +kernel
theorem dX7_talk_38 : decode cX7_talk 38 = .ok (.getfield 148, 3) := by decide +kernel
theorem dX7_talk_41 : decode cX7_talk 41 = .ok (.iconst 1, 1) := by decide +kernel
theorem dX7_talk_42 : decode cX7_talk 42 = .ok (.iadd, 1) := by decide +kernel
theorem dX7_talk_43 : decode cX7_talk 43 = .ok (.putfield 148, 3) := by decide +kernel
theorem dX7_talk_46 : decode cX7_talk 46 = .ok (.aload_n 0, 1) := by decide +kernel
theorem dX7_talk_47 : decode cX7_talk 47 = .ok (.getfield 148, 3) := by decide +kernel
theorem dX7_talk_50 : decode cX7_talk 50 = .ok (.ireturn, 1) := by decide +kernel
theorem dX7_noTalk_0 : decode cX7_noTalk 0 = .ok (.aload_n 0, 1) := by decide +kernel
theorem dX7_noTalk_1 : decode cX7_noTalk 1 = .ok (.getfield 148, 3) := by decide +kernel
theorem dX7_noTalk_4 : decode cX7_noTalk 4 = .ok (.istore_n 1, 1) := by decide +kernel
theorem dX7_noTalk_5 : decode cX7_noTalk 5 = .ok (.aload_n 0, 1) := by decide +kernel
theorem dX7_noTalk_6 : decode cX7_noTalk 6 = .ok (.iconst 0, 1) := by decide +kernel
theorem dX7_noTalk_7 : decode cX7_noTalk 7 = .ok (.putfield 148, 3) := by decide +kernel
theorem dX7_noTalk_10 : decode cX7_noTalk 10 = .ok (.iload_n 1, 1) := by decide +kernel
theorem dX7_noTalk_11 : decode cX7_noTalk 11 = .ok (.ireturn, 1) := by decide +kernel
theorem dX7_takeLines_0 : decode cX7_takeLines 0 = .ok (.iload_n 1, 1) := by decide +kernel
theorem dX7_takeLines_1 : decode cX7_takeLines 1 = .ok (.istore_n 2, 1) := by decide +kernel
theorem dX7_takeLines_2 : decode cX7_takeLines 2 = .ok (.iconst 0, 1) := by decide +kernel
theorem dX7_takeLines_3 : decode cX7_takeLines 3 = .ok (.istore_n 3, 1) := by decide +kernel
theorem dX7_takeLines_4 : decode cX7_takeLines 4 = .ok (.aload_n 0, 1) := by decide +kernel
theorem dX7_takeLines_5 : decode cX7_takeLines 5 = .ok (.getfield 148, 3) := by decide +kernel
theorem dX7_takeLines_8 : decode cX7_takeLines 8 = .ok (.iconst 1, 1) := by decide +kernel
theorem dX7_takeLines_9 : decode cX7_takeLines 9 = .ok (.isub, 1) := by decide +kernel
theorem dX7_takeLines_10 : decode cX7_takeLines 10 = .ok (.istore 4, 2) := by decide +kernel
theorem dX7_takeLines_12 : decode cX7_takeLines 12 = .ok (.iload 4, 2) := by decide +kernel
theorem dX7_takeLines_14 : decode cX7_takeLines 14 = .ok (.ifCond .lt 37, 3) := by decide +kernel
theorem dX7_takeLines_17 : decode cX7_takeLines 17 = .ok (.aload_n 0, 1) := by decide +kernel
theorem dX7_takeLines_18 : decode cX7_takeLines 18 = .ok (.getfield 73, 3) := by decide +kernel
theorem dX7_takeLines_21 : decode cX7_takeLines 21 = .ok (.iload 4, 2) := by decide +kernel
theorem dX7_takeLines_23 : decode cX7_takeLines 23 = .ok (.iload_n 2, 1) := by decide +kernel
theorem dX7_takeLines_24 : decode cX7_takeLines 24 = .ok (.iconst 4, 1) := by decide +kernel
theorem dX7_takeLines_25 : decode cX7_takeLines 25 = .ok (.irem, 1) := by decide +kernel
theorem dX7_takeLines_26 : decode cX7_takeLines 26 = .ok (.iastore, 1) := by decide +kernel
theorem dX7_takeLines_27 : decode cX7_takeLines 27 = .ok (.iload_n 3, 1) := by decide +kernel
theorem dX7_takeLines_28 : decode cX7_takeLines 28 = .ok (.iload_n 2, 1) := by decide +kernel
theorem dX7_takeLines_29 : decode cX7_takeLines 29 = .ok (.iconst 4, 1) := by decide +kernel
theorem dX7_takeLines_30 : decode cX7_takeLines 30 = .ok (.irem, 1) := by decide +kernel
theorem dX7_takeLines_31 : decode cX7_takeLines 31 = .ok (.ifCond .ne 7, 3) := by decide +kernel
theorem dX7_takeLines_34 : decode cX7_takeLines 34 = .ok (.iconst 0, 1) := by decide +kernel
theorem dX7_takeLines_35 : decode cX7_takeLines 35 = .ok (.goto 4, 3) := by decide +kernel
theorem dX7_takeLines_38 : decode cX7_takeLines 38 = .ok (.iconst 1, 1) := by decide +kernel
theorem dX7_takeLines_39 : decode cX7_takeLines 39 = .ok (.iadd, 1) := by decide +kernel
theorem dX7_takeLines_40 : decode cX7_takeLines 40 = .ok (.istore_n 3, 1) := by decide +kernel
theorem dX7_takeLines_41 : decode cX7_takeLines 41 = .ok (.iload_n 2, 1) := by decide +kernel
theorem dX7_takeLines_42 : decode cX7_takeLines 42 = .ok (.iconst 4, 1) := by decide +kernel
theorem dX7_takeLines_43 : decode cX7_takeLines 43 = .ok (.idiv, 1) := by decide +kernel
theorem dX7_takeLines_44 : decode cX7_takeLines 44 = .ok (.istore_n 2, 1) := by decide +kernel
theorem dX7_takeLines_45 : decode cX7_takeLines 45 = .ok (.iinc 4 (-1), 3) := by decide +kernel
theorem dX7_takeLines_48 : decode cX7_takeLines 48 = .ok (.goto (-36), 3) := by decide +kernel
theorem dX7_takeLines_51 : decode cX7_takeLines 51 = .ok (.iload_n 3, 1) := by decide +kernel
theorem dX7_takeLines_52 : decode cX7_takeLines 52 = .ok (.ireturn, 1) := by decide +kernel
set_option maxRecDepth 20000 in
theorem ggX7_isTalk_X7_quiet : GoodIn wsX7_isTalk wsX7_quiet := goodIn_r _ [11, 12, 5, 41, 42, 43, 44, 45, 46, 47, 48, 49, 50, 51, 52, 53, 54, 55, 56, 57, 58, 59, 60, 61, 62, 63, 64, 65, 66, 67, 68] (by decide +kernel) (by decide +kernel)
set_option maxRecDepth 20000 in
theorem gX7_isTalk_X7_quiet : GoodIn wsX7_isTalk (wsV RX7 173 RX7 yX7_quiet wsX7_quiet) := goodIn_app (goodIn_of _ (by decide +kernel)) ggX7_isTalk_X7_quiet
set_option maxRecDepth 20000 in
theorem ggX7_isTalk_X7_say1 : GoodIn wsX7_isTalk wsX7_say1 := goodIn_r _ [16, 17, 18, 19, 20, 21, 22, 10, 23, 24, 25, 26, 27, 12, 5, 28, 29, 30, 31, 32, 33, 34, 35, 36, 37, 38, 39, 40, 41, 42, 43, 44, 45, 46, 47, 48, 49, 50, 51, 52, 53, 54, 55, 56, 57, 58, 59, 60, 61, 62, 63, 64, 65, 66, 67, 68] (by decide +kernel) (by decide +kernel)
set_option maxRecDepth 20000 in
theorem gX7_isTalk_X7_say1 : GoodIn wsX7_isTalk (wsV RX7 176 RX7 yX7_say1 wsX7_say1) := goodIn_app (goodIn_of _ (by decide +kernel)) ggX7_isTalk_X7_say1
set_option maxRecDepth 20000 in
theorem ggX7_isTalk_X7_away : GoodIn wsX7_isTalk wsX7_away := goodIn_r _ [23] (by decide +kernel) (by decide +kernel)
set_option maxRecDepth 20000 in
theorem gX7_isTalk_X7_away : GoodIn wsX7_isTalk (va_wsS RX7 154 yX7_away wsX7_away) := goodIn_app (goodIn_of _ (by decide +kernel)) ggX7_isTalk_X7_away
theorem dX7_isTalk_0 : decode cX7_isTalk 0 = .ok (.aload_n 0, 1) := by decide +kernel
theorem dX7_isTalk_1 : decode cX7_isTalk 1 = .ok (.invokevirtual 173, 3) := by decide +kernel
theorem dX7_isTalk_4 : decode cX7_isTalk 4 = .ok (.iconst 0, 1) := by decide +kernel
theorem dX7_isTalk_5 : decode cX7_isTalk 5 = .ok (.istore_n 1, 1) := by decide +kernel
theorem dX7_isTalk_6 : decode cX7_isTalk 6 = .ok (.iload_n 1, 1) := by decide +kernel
theorem dX7_isTalk_7 : decode cX7_isTalk 7 = .ok (.aload_n 0, 1) := by decide +kernel
theorem dX7_isTalk_8 : decode cX7_isTalk 8 = .ok (.getfield 148, 3) := by decide +kernel
theorem dX7_isTalk_11 : decode cX7_isTalk 11 = .ok (.if_icmp .ge 43, 3) := by decide +kernel
theorem dX7_isTalk_14 : decode cX7_isTalk 14 = .ok (.aload_n 0, 1) := by decide +kernel
theorem dX7_isTalk_15 : decode cX7_isTalk 15 = .ok (.getfield 73, 3) := by decide +kernel
theorem dX7_isTalk_18 : decode cX7_isTalk 18 = .ok (.iload_n 1, 1) := by decide +kernel
theorem dX7_isTalk_19 : decode cX7_isTalk 19 = .ok (.iaload, 1) := by decide +kernel
theorem dX7_isTalk_20 : decode cX7_isTalk 20 = .ok (.ifCond .le 28, 3) := by decide +kernel
theorem dX7_isTalk_23 : decode cX7_isTalk 23 = .ok (.aload_n 0, 1) := by decide +kernel
theorem dX7_isTalk_24 : decode cX7_isTalk 24 = .ok (.aload_n 0, 1) := by decide +kernel
theorem dX7_isTalk_25 : decode cX7_isTalk 25 = .ok (.getfield 40, 3) := by decide +kernel
theorem dX7_isTalk_28 : decode cX7_isTalk 28 = .ok (.iconst 0, 1) := by decide +kernel
theorem dX7_isTalk_29 : decode cX7_isTalk 29 = .ok (.iaload, 1) := by decide +kernel
theorem dX7_isTalk_30 : decode cX7_isTalk 30 = .ok (.iload_n 1, 1) := by decide +kernel
theorem dX7_isTalk_31 : decode cX7_isTalk 31 = .ok (.aload_n 0, 1) := by decide +kernel
theorem dX7_isTalk_32 : decode cX7_isTalk 32 = .ok (.getfield 73, 3) := by decide +kernel
theorem dX7_isTalk_35 : decode cX7_isTalk 35 = .ok (.iload_n 1, 1) := by decide +kernel
theorem dX7_isTalk_36 : decode cX7_isTalk 36 = .ok (.iaload, 1) := by decide +kernel
theorem dX7_isTalk_37 : decode cX7_isTalk 37 = .ok (.bipush 50, 2) := by decide +kernel
theorem dX7_isTalk_39 : decode cX7_isTalk 39 = .ok (.aload_n 0, 1) := by decide +kernel
theorem dX7_isTalk_40 : decode cX7_isTalk 40 = .ok (.getfield 43, 3) := by decide +kernel
theorem dX7_isTalk_43 : decode cX7_isTalk 43 = .ok (.iconst 0, 1) := by decide +kernel
theorem dX7_isTalk_44 : decode cX7_isTalk 44 = .ok (.iaload, 1) := by decide +kernel
theorem dX7_isTalk_45 : decode cX7_isTalk 45 = .ok (.invokevirtual 176, 3) := by decide +kernel
theorem dX7_isTalk_48 : decode cX7_isTalk 48 = .ok (.iinc 1 1, 3) := by decide +kernel
theorem dX7_isTalk_51 : decode cX7_isTalk 51 = .ok (.goto (-45), 3) := by decide +kernel
theorem dX7_isTalk_54 : decode cX7_isTalk 54 = .ok (.iconst 1, 1) := by decide +kernel
theorem dX7_isTalk_55 : decode cX7_isTalk 55 = .ok (.istore_n 1, 1) := by decide +kernel
theorem dX7_isTalk_56 : decode cX7_isTalk 56 = .ok (.iconst 0, 1) := by decide +kernel
theorem dX7_isTalk_57 : decode cX7_isTalk 57 = .ok (.istore_n 2, 1) := by decide +kernel
theorem dX7_isTalk_58 : decode cX7_isTalk 58 = .ok (.iload_n 2, 1) := by decide +kernel
theorem dX7_isTalk_59 : decode cX7_isTalk 59 = .ok (.aload_n 0, 1) := by decide +kernel
theorem dX7_isTalk_60 : decode cX7_isTalk 60 = .ok (.getfield 148, 3) := by decide +kernel
theorem dX7_isTalk_63 : decode cX7_isTalk 63 = .ok (.if_icmp .ge 50, 3) := by decide +kernel
theorem dX7_isTalk_66 : decode cX7_isTalk 66 = .ok (.iload_n 1, 1) := by decide +kernel
theorem dX7_isTalk_67 : decode cX7_isTalk 67 = .ok (.ifCond .eq 38, 3) := by decide +kernel
theorem dX7_isTalk_70 : decode cX7_isTalk 70 = .ok (.aload_n 0, 1) := by decide +kernel
theorem dX7_isTalk_71 : decode cX7_isTalk 71 = .ok (.getfield 70, 3) := by decide +kernel
theorem dX7_isTalk_74 : decode cX7_isTalk 74 = .ok (.aload_n 0, 1) := by decide +kernel
theorem dX7_isTalk_75 : decode cX7_isTalk 75 = .ok (.getfield 40, 3) := by decide +kernel
theorem dX7_isTalk_78 : decode cX7_isTalk 78 = .ok (.iconst 0, 1) := by decide +kernel
theorem dX7_isTalk_79 : decode cX7_isTalk 79 = .ok (.iaload, 1) := by decide +kernel
theorem dX7_isTalk_80 : decode cX7_isTalk 80 = .ok (.aload_n 0, 1) := by decide +kernel
theorem dX7_isTalk_81 : decode cX7_isTalk 81 = .ok (.getfield 43, 3) := by decide +kernel
theorem dX7_isTalk_84 : decode cX7_isTalk 84 = .ok (.iconst 0, 1) := by decide +kernel
theorem dX7_isTalk_85 : decode cX7_isTalk 85 = .ok (.iaload, 1) := by decide +kernel
theorem dX7_isTalk_86 : decode cX7_isTalk 86 = .ok (.invokestatic 154, 3) := by decide +kernel
theorem dX7_isTalk_89 : decode cX7_isTalk 89 = .ok (.iload_n 2, 1) := by decide +kernel
theorem dX7_isTalk_90 : decode cX7_isTalk 90 = .ok (.iadd, 1) := by decide +kernel
theorem dX7_isTalk_91 : decode cX7_isTalk 91 = .ok (.iaload, 1) := by decide +kernel
theorem dX7_isTalk_92 : decode cX7_isTalk 92 = .ok (.aload_n 0, 1) := by decide +kernel
theorem dX7_isTalk_93 : decode cX7_isTalk 93 = .ok (.getfield 52, 3) := by decide +kernel
theorem dX7_isTalk_96 : decode cX7_isTalk 96 = .ok (.iload_n 2, 1) := by decide +kernel
theorem dX7_isTalk_97 : decode cX7_isTalk 97 = .ok (.iaload, 1) := by decide +kernel
theorem dX7_isTalk_98 : decode cX7_isTalk 98 = .ok (.if_icmp .ne 7, 3) := by decide +kernel
theorem dX7_isTalk_101 : decode cX7_isTalk 101 = .ok (.iconst 1, 1) := by decide +kernel
theorem dX7_isTalk_102 : decode cX7_isTalk 102 = .ok (.goto 4, 3) := by decide +kernel
theorem dX7_isTalk_105 : decode cX7_isTalk 105 = .ok (.iconst 0, 1) := by decide +kernel
theorem dX7_isTalk_106 : decode cX7_isTalk 106 = .ok (.istore_n 1, 1) := by decide +kernel
theorem dX7_isTalk_107 : decode cX7_isTalk 107 = .ok (.iinc 2 1, 3) := by decide +kernel
theorem dX7_isTalk_110 : decode cX7_isTalk 110 = .ok (.goto (-52), 3) := by decide +kernel
theorem dX7_isTalk_113 : decode cX7_isTalk 113 = .ok (.iload_n 1, 1) := by decide +kernel
theorem dX7_isTalk_114 : decode cX7_isTalk 114 = .ok (.ireturn, 1) := by decide +kernel
set_option maxRecDepth 20000 in
theorem ggX7_lines_X7_takeLines : GoodIn wsX7_lines wsX7_takeLines := goodIn_r _ [7, 1, 2, 49, 50, 51, 52, 53, 54, 55, 56, 57, 58, 59, 60, 61, 62, 63, 64, 65, 66, 67, 68, 69, 70, 71, 72, 73, 74, 75, 76] (by decide +kernel) (by decide +kernel)
set_option maxRecDepth 20000 in
theorem gX7_lines_X7_takeLines : GoodIn wsX7_lines (wsV RX7 212 RX7 yX7_takeLines wsX7_takeLines) := goodIn_app (goodIn_of _ (by decide +kernel)) ggX7_lines_X7_takeLines
set_option maxRecDepth 20000 in
theorem ggX7_lines_X7_isTalk : GoodIn wsX7_lines wsX7_isTalk := goodIn_r _ [11, 1, 2, 12, 13, 14, 15, 16, 17, 18, 6, 19, 20, 21, 22, 23, 24, 25, 26, 27, 28, 29, 30, 31, 32, 33, 34, 35, 36, 37, 38, 39, 40, 41, 42, 43, 44, 45, 46, 47, 48, 49, 50, 51, 52, 53, 54, 55, 56, 57, 58, 59, 60, 61, 62, 63, 64, 65, 66, 67, 68, 69, 70, 71, 72, 73, 74, 75, 76] (by decide +kernel) (by decide +kernel)
set_option maxRecDepth 20000 in
theorem gX7_lines_X7_isTalk : GoodIn wsX7_lines (wsV RX7 215 RX7 yX7_isTalk wsX7_isTalk) := goodIn_app (goodIn_of _ (by decide +kernel)) ggX7_lines_X7_isTalk
theorem dX7_lines_0 : decode cX7_lines 0 = .ok (.iload_n 1, 1) := by decide +kernel
theorem dX7_lines_1 : decode cX7_lines 1 = .ok (.iconst (-1), 1) := by decide +kernel
theorem dX7_lines_2 : decode cX7_lines 2 = .ok (.if_icmp .ge 5, 3) := by decide +kernel
theorem dX7_lines_5 : decode cX7_lines 5 = .ok (.iconst (-1), 1) := by decide +kernel
theorem dX7_lines_6 : decode cX7_lines 6 = .ok (.ireturn, 1) := by decide +kernel
theorem dX7_lines_7 : decode cX7_lines 7 = .ok (.aload_n 0, 1) := by decide +kernel
theorem dX7_lines_8 : decode cX7_lines 8 = .ok (.getfield 148, 3) := by decide +kernel
theorem dX7_lines_11 : decode cX7_lines 11 = .ok (.ifCond .ne 6, 3) := by decide +kernel
theorem dX7_lines_14 : decode cX7_lines 14 = .ok (.bipush (-2), 2) := by decide +kernel
theorem dX7_lines_16 : decode cX7_lines 16 = .ok (.ireturn, 1) := by decide +kernel
theorem dX7_lines_17 : decode cX7_lines 17 = .ok (.bipush (-4), 2) := by decide +kernel
theorem dX7_lines_19 : decode cX7_lines 19 = .ok (.istore_n 2, 1) := by decide +kernel
theorem dX7_lines_20 : decode cX7_lines 20 = .ok (.bipush (-4), 2) := by decide +kernel
theorem dX7_lines_22 : decode cX7_lines 22 = .ok (.istore_n 3, 1) := by decide +kernel
theorem dX7_lines_23 : decode cX7_lines 23 = .ok (.iconst 0, 1) := by decide +kernel
theorem dX7_lines_24 : decode cX7_lines 24 = .ok (.istore 4, 2) := by decide +kernel
theorem dX7_lines_26 : decode cX7_lines 26 = .ok (.iload 4, 2) := by decide +kernel
theorem dX7_lines_28 : decode cX7_lines 28 = .ok (.iconst 1, 1) := by decide +kernel
theorem dX7_lines_29 : decode cX7_lines 29 = .ok (.iconst 2, 1) := by decide +kernel
theorem dX7_lines_30 : decode cX7_lines 30 = .ok (.aload_n 0, 1) := by decide +kernel
theorem dX7_lines_31 : decode cX7_lines 31 = .ok (.getfield 148, 3) := by decide +kernel
theorem dX7_lines_34 : decode cX7_lines 34 = .ok (.imul, 1) := by decide +kernel
theorem dX7_lines_35 : decode cX7_lines 35 = .ok (.ishl, 1) := by decide +kernel
theorem dX7_lines_36 : decode cX7_lines 36 = .ok (.if_icmp .ge 40, 3) := by decide +kernel
theorem dX7_lines_39 : decode cX7_lines 39 = .ok (.aload_n 0, 1) := by decide +kernel
theorem dX7_lines_40 : decode cX7_lines 40 = .ok (.iload 4, 2) := by decide +kernel
theorem dX7_lines_42 : decode cX7_lines 42 = .ok (.invokevirtual 212, 3) := by decide +kernel
theorem dX7_lines_45 : decode cX7_lines 45 = .ok (.istore 5, 2) := by decide +kernel
theorem dX7_lines_47 : decode cX7_lines 47 = .ok (.iload_n 2, 1) := by decide +kernel
theorem dX7_lines_48 : decode cX7_lines 48 = .ok (.ifCond .lt 9, 3) := by decide +kernel
theorem dX7_lines_51 : decode cX7_lines 51 = .ok (.iload 5, 2) := by decide +kernel
theorem dX7_lines_53 : decode cX7_lines 53 = .ok (.iload_n 3, 1) := by decide +kernel
theorem dX7_lines_54 : decode cX7_lines 54 = .ok (.if_icmp .ge 16, 3) := by decide +kernel
theorem dX7_lines_57 : decode cX7_lines 57 = .ok (.aload_n 0, 1) := by decide +kernel
theorem dX7_lines_58 : decode cX7_lines 58 = .ok (.invokevirtual 215, 3) := by decide +kernel
theorem dX7_lines_61 : decode cX7_lines 61 = .ok (.ifCond .eq 9, 3) := by decide +kernel
theorem dX7_lines_64 : decode cX7_lines 64 = .ok (.iload 4, 2) := by decide +kernel
theorem dX7_lines_66 : decode cX7_lines 66 = .ok (.istore_n 2, 1) := by decide +kernel
theorem dX7_lines_67 : decode cX7_lines 67 = .ok (.iload 5, 2) := by decide +kernel
theorem dX7_lines_69 : decode cX7_lines 69 = .ok (.istore_n 3, 1) := by decide +kernel
theorem dX7_lines_70 : decode cX7_lines 70 = .ok (.iinc 4 1, 3) := by decide +kernel
theorem dX7_lines_73 : decode cX7_lines 73 = .ok (.goto (-47), 3) := by decide +kernel
theorem dX7_lines_76 : decode cX7_lines 76 = .ok (.iload_n 2, 1) := by decide +kernel
theorem dX7_lines_77 : decode cX7_lines 77 = .ok (.ifCond .lt 11, 3) := by decide +kernel
theorem dX7_lines_80 : decode cX7_lines 80 = .ok (.iload_n 1, 1) := by decide +kernel
theorem dX7_lines_81 : decode cX7_lines 81 = .ok (.aload_n 0, 1) := by decide +kernel
theorem dX7_lines_82 : decode cX7_lines 82 = .ok (.getfield 148, 3) := by decide +kernel
theorem dX7_lines_85 : decode cX7_lines 85 = .ok (.if_icmp .lt 6, 3) := by decide +kernel
theorem dX7_lines_88 : decode cX7_lines 88 = .ok (.bipush (-4), 2) := by decide +kernel
theorem dX7_lines_90 : decode cX7_lines 90 = .ok (.ireturn, 1) := by decide +kernel
theorem dX7_lines_91 : decode cX7_lines 91 = .ok (.aload_n 0, 1) := by decide +kernel
theorem dX7_lines_92 : decode cX7_lines 92 = .ok (.iload_n 2, 1) := by decide +kernel
theorem dX7_lines_93 : decode cX7_lines 93 = .ok (.invokevirtual 212, 3) := by decide +kernel
theorem dX7_lines_96 : decode cX7_lines 96 = .ok (.pop, 1) := by decide +kernel
theorem dX7_lines_97 : decode cX7_lines 97 = .ok (.iload_n 1, 1) := by decide +kernel
theorem dX7_lines_98 : decode cX7_lines 98 = .ok (.ifCond .ge 7, 3) := by decide +kernel
theorem dX7_lines_101 : decode cX7_lines 101 = .ok (.iload_n 3, 1) := by decide +kernel
theorem dX7_lines_102 : decode cX7_lines 102 = .ok (.goto 9, 3) := by decide +kernel
theorem dX7_lines_105 : decode cX7_lines 105 = .ok (.aload_n 0, 1) := by decide +kernel
theorem dX7_lines_106 : decode cX7_lines 106 = .ok (.getfield 73, 3) := by decide +kernel
theorem dX7_lines_109 : decode cX7_lines 109 = .ok (.iload_n 1, 1) := by decide +kernel
theorem dX7_lines_110 : decode cX7_lines 110 = .ok (.iaload, 1) := by decide +kernel
theorem dX7_lines_111 : decode cX7_lines 111 = .ok (.ireturn, 1) := by decide +kernel
set_option maxRecDepth 20000 in
theorem ggX7_second_X7_isYard : GoodIn wsX7_second wsX7_isYard := goodIn_r _ [10, 11, 12, 13, 9, 14] (by decide +kernel) (by decide +kernel)
set_option maxRecDepth 20000 in
theorem gX7_second_X7_isYard : GoodIn wsX7_second (va_wsS RX7 117 yX7_isYard wsX7_isYard) := goodIn_app (goodIn_of _ (by decide +kernel)) ggX7_second_X7_isYard
set_option maxRecDepth 20000 in
theorem ggX7_second_X7_sayAll : GoodIn wsX7_second wsX7_sayAll := goodIn_r _ [18, 3, 4, 5, 6, 19, 20, 21, 9, 22, 23, 24, 25, 26, 27, 28, 29, 30, 31, 32, 33, 34, 35, 36, 37, 38, 39, 40, 41, 42, 43, 44, 45, 46, 47, 48, 49, 50, 51, 52, 57, 58, 59, 60, 61, 62, 63, 64, 65, 66, 67, 68, 69, 70, 71, 72, 73, 74, 75, 76, 77, 78, 79, 80, 81, 82, 83, 84] (by decide +kernel) (by decide +kernel)
set_option maxRecDepth 20000 in
theorem gX7_second_X7_sayAll : GoodIn wsX7_second (wsV RX7 186 RX7 yX7_sayAll wsX7_sayAll) := goodIn_app (goodIn_of _ (by decide +kernel)) ggX7_second_X7_sayAll
set_option maxRecDepth 20000 in
theorem ggX7_second_X7_say1 : GoodIn wsX7_second wsX7_say1 := goodIn_r _ [31, 32, 33, 34, 35, 36, 37, 9, 38, 39, 40, 41, 42, 23, 24, 25, 26, 27, 43, 44, 45, 46, 47, 48, 49, 50, 51, 52, 57, 58, 59, 60, 61, 62, 63, 64, 65, 66, 67, 68, 69, 70, 71, 72, 73, 74, 75, 76, 77, 78, 79, 80, 81, 82, 83, 84] (by decide +kernel) (by decide +kernel)
set_option maxRecDepth 20000 in
theorem gX7_second_X7_say1 : GoodIn wsX7_second (wsV RX7 176 RX7 yX7_say1 wsX7_say1) := goodIn_app (goodIn_of _ (by decide +kernel)) ggX7_second_X7_say1
set_option maxRecDepth 20000 in
theorem ggX7_second_X7_isClear : GoodIn wsX7_second wsX7_isClear := goodIn_r _ [56, 4, 6, 32, 24, 5, 36, 37, 9, 38, 57, 58, 59, 60, 61, 62, 63, 64, 65, 66, 67, 68, 69, 70, 71, 72, 73, 74, 75, 76, 77, 78, 79, 80, 81, 82, 83, 84] (by decide +kernel) (by decide +kernel)
set_option maxRecDepth 20000 in
theorem gX7_second_X7_isClear : GoodIn wsX7_second (wsV RX7 180 RX7 yX7_isClear wsX7_isClear) := goodIn_app (goodIn_of _ (by decide +kernel)) ggX7_second_X7_isClear
theorem dX7_second_0 : decode cX7_second 0 = .ok (.iload_n 1, 1) := by decide +kernel
theorem dX7_second_1 : decode cX7_second 1 = .ok (.invokestatic 117, 3) := by decide +kernel
theorem dX7_second_4 : decode cX7_second 4 = .ok (.ifCond .ne 5, 3) := by decide +kernel
theorem dX7_second_7 : decode cX7_second 7 = .ok (.iconst (-1), 1) := by decide +kernel
theorem dX7_second_8 : decode cX7_second 8 = .ok (.ireturn, 1) := by decide +kernel
theorem dX7_second_9 : decode cX7_second 9 = .ok (.iconst 0, 1) := by decide +kernel
theorem dX7_second_10 : decode cX7_second 10 = .ok (.istore_n 2, 1) := by decide +kernel
theorem dX7_second_11 : decode cX7_second 11 = .ok (.iload_n 2, 1) := by decide +kernel
theorem dX7_second_12 : decode cX7_second 12 = .ok (.bipush 60, 2) := by decide +kernel
theorem dX7_second_14 : decode cX7_second 14 = .ok (.if_icmp .gt 152, 3) := by decide +kernel
theorem dX7_second_17 : decode cX7_second 17 = .ok (.aload_n 0, 1) := by decide +kernel
theorem dX7_second_18 : decode cX7_second 18 = .ok (.aload_n 0, 1) := by decide +kernel
theorem dX7_second_19 : decode cX7_second 19 = .ok (.getfield 40, 3) := by decide +kernel
theorem dX7_second_22 : decode cX7_second 22 = .ok (.iconst 0, 1) := by decide +kernel
theorem dX7_second_23 : decode cX7_second 23 = .ok (.iaload, 1) := by decide +kernel
theorem dX7_second_24 : decode cX7_second 24 = .ok (.aload_n 0, 1) := by decide +kernel
theorem dX7_second_25 : decode cX7_second 25 = .ok (.getfield 43, 3) := by decide +kernel
theorem dX7_second_28 : decode cX7_second 28 = .ok (.iconst 0, 1) := by decide +kernel
theorem dX7_second_29 : decode cX7_second 29 = .ok (.iaload, 1) := by decide +kernel
theorem dX7_second_30 : decode cX7_second 30 = .ok (.iconst 0, 1) := by decide +kernel
theorem dX7_second_31 : decode cX7_second 31 = .ok (.invokevirtual 186, 3) := by decide +kernel
theorem dX7_second_34 : decode cX7_second 34 = .ok (.iconst 0, 1) := by decide +kernel
theorem dX7_second_35 : decode cX7_second 35 = .ok (.istore_n 3, 1) := by decide +kernel
theorem dX7_second_36 : decode cX7_second 36 = .ok (.iload_n 3, 1) := by decide +kernel
theorem dX7_second_37 : decode cX7_second 37 = .ok (.aload_n 0, 1) := by decide +kernel
theorem dX7_second_38 : decode cX7_second 38 = .ok (.getfield 28, 3) := by decide +kernel
theorem dX7_second_41 : decode cX7_second 41 = .ok (.iconst 0, 1) := by decide +kernel
theorem dX7_second_42 : decode cX7_second 42 = .ok (.iaload, 1) := by decide +kernel
theorem dX7_second_43 : decode cX7_second 43 = .ok (.if_icmp .ge 40, 3) := by decide +kernel
theorem dX7_second_46 : decode cX7_second 46 = .ok (.aload_n 0, 1) := by decide +kernel
theorem dX7_second_47 : decode cX7_second 47 = .ok (.iload_n 1, 1) := by decide +kernel
theorem dX7_second_48 : decode cX7_second 48 = .ok (.aload_n 0, 1) := by decide +kernel
theorem dX7_second_49 : decode cX7_second 49 = .ok (.getfield 31, 3) := by decide +kernel
theorem dX7_second_52 : decode cX7_second 52 = .ok (.iload_n 3, 1) := by decide +kernel
theorem dX7_second_53 : decode cX7_second 53 = .ok (.iaload, 1) := by decide +kernel
theorem dX7_second_54 : decode cX7_second 54 = .ok (.iload_n 2, 1) := by decide +kernel
theorem dX7_second_55 : decode cX7_second 55 = .ok (.iadd, 1) := by decide +kernel
theorem dX7_second_56 : decode cX7_second 56 = .ok (.aload_n 0, 1) := by decide +kernel
theorem dX7_second_57 : decode cX7_second 57 = .ok (.getfield 34, 3) := by decide +kernel
theorem dX7_second_60 : decode cX7_second 60 = .ok (.iload_n 3, 1) := by decide +kernel
theorem dX7_second_61 : decode cX7_second 61 = .ok (.iaload, 1) := by decide +kernel
theorem dX7_second_62 : decode cX7_second 62 = .ok (.aload_n 0, 1) := by decide +kernel
theorem dX7_second_63 : decode cX7_second 63 = .ok (.getfield 37, 3) := by decide +kernel
theorem dX7_second_66 : decode cX7_second 66 = .ok (.iload_n 3, 1) := by decide +kernel
theorem dX7_second_67 : decode cX7_second 67 = .ok (.iaload, 1) := by decide +kernel
theorem dX7_second_68 : decode cX7_second 68 = .ok (.aload_n 0, 1) := by decide +kernel
theorem dX7_second_69 : decode cX7_second 69 = .ok (.getfield 43, 3) := by decide +kernel
theorem dX7_second_72 : decode cX7_second 72 = .ok (.iconst 0, 1) := by decide +kernel
theorem dX7_second_73 : decode cX7_second 73 = .ok (.iaload, 1) := by decide +kernel
theorem dX7_second_74 : decode cX7_second 74 = .ok (.invokevirtual 176, 3) := by decide +kernel
theorem dX7_second_77 : decode cX7_second 77 = .ok (.iinc 3 1, 3) := by decide +kernel
theorem dX7_second_80 : decode cX7_second 80 = .ok (.goto (-44), 3) := by decide +kernel
theorem dX7_second_83 : decode cX7_second 83 = .ok (.iconst 1, 1) := by decide +kernel
theorem dX7_second_84 : decode cX7_second 84 = .ok (.istore_n 3, 1) := by decide +kernel
theorem dX7_second_85 : decode cX7_second 85 = .ok (.iconst 0, 1) := by decide +kernel
theorem dX7_second_86 : decode cX7_second 86 = .ok (.istore 4, 2) := by decide +kernel
theorem dX7_second_88 : decode cX7_second 88 = .ok (.iload 4, 2) := by decide +kernel
theorem dX7_second_90 : decode cX7_second 90 = .ok (.aload_n 0, 1) := by decide +kernel
theorem dX7_second_91 : decode cX7_second 91 = .ok (.getfield 28, 3) := by decide +kernel
theorem dX7_second_94 : decode cX7_second 94 = .ok (.iconst 0, 1) := by decide +kernel
theorem dX7_second_95 : decode cX7_second 95 = .ok (.iaload, 1) := by decide +kernel
theorem dX7_second_96 : decode cX7_second 96 = .ok (.if_icmp .ge 58, 3) := by decide +kernel
theorem dX7_second_99 : decode cX7_second 99 = .ok (.iload_n 3, 1) := by decide +kernel
theorem dX7_second_100 : decode cX7_second 100 = .ok (.ifCond .eq 46, 3) := by decide +kernel
theorem dX7_second_103 : decode cX7_second 103 = .ok (.aload_n 0, 1) := by decide +kernel
theorem dX7_second_104 : decode cX7_second 104 = .ok (.iload 4, 2) := by decide +kernel
theorem dX7_second_106 : decode cX7_second 106 = .ok (.aload_n 0, 1) := by decide +kernel
theorem dX7_second_107 : decode cX7_second 107 = .ok (.getfield 40, 3) := by decide +kernel
theorem dX7_second_110 : decode cX7_second 110 = .ok (.iconst 0, 1) := by decide +kernel
theorem dX7_second_111 : decode cX7_second 111 = .ok (.iaload, 1) := by decide +kernel
theorem dX7_second_112 : decode cX7_second 112 = .ok (.aload_n 0, 1) := by decide +kernel
theorem dX7_second_113 : decode cX7_second 113 = .ok (.getfield 43, 3) := by decide +kernel
theorem dX7_second_116 : decode cX7_second 116 = .ok (.iconst 0, 1) := by decide +kernel
theorem dX7_second_117 : decode cX7_second 117 = .ok (.iaload, 1) := by decide +kernel
theorem dX7_second_118 : decode cX7_second 118 = .ok (.iconst 0, 1) := by decide +kernel
theorem dX7_second_119 : decode cX7_second 119 = .ok (.invokevirtual 180, 3) := by decide +kernel
theorem dX7_second_122 : decode cX7_second 122 = .ok (.ifCond .eq 24, 3) := by decide +kernel
theorem dX7_second_125 : decode cX7_second 125 = .ok (.aload_n 0, 1) := by decide +kernel
theorem dX7_second_126 : decode cX7_second 126 = .ok (.iload 4, 2) := by decide +kernel
theorem dX7_second_128 : decode cX7_second 128 = .ok (.iload_n 1, 1) := by decide +kernel
theorem dX7_second_129 : decode cX7_second 129 = .ok (.aload_n 0, 1) := by decide +kernel
theorem dX7_second_130 : decode cX7_second 130 = .ok (.getfield 43, 3) := by decide +kernel
theorem dX7_second_133 : decode cX7_second 133 = .ok (.iconst 0, 1) := by decide +kernel
theorem dX7_second_134 : decode cX7_second 134 = .ok (.iaload, 1) := by decide +kernel
theorem dX7_second_135 : decode cX7_second 135 = .ok (.iload_n 2, 1) := by decide +kernel
theorem dX7_second_136 : decode cX7_second 136 = .ok (.invokevirtual 180, 3) := by decide +kernel
theorem dX7_second_139 : decode cX7_second 139 = .ok (.ifCond .eq 7, 3) := by decide +kernel
theorem dX7_second_142 : decode cX7_second 142 = .ok (.iconst 1, 1) := by decide +kernel
theorem dX7_second_143 : decode cX7_second 143 = .ok (.goto 4, 3) := by decide +kernel
theorem dX7_second_146 : decode cX7_second 146 = .ok (.iconst 0, 1) := by decide +kernel
theorem dX7_second_147 : decode cX7_second 147 = .ok (.istore_n 3, 1) := by decide +kernel
theorem dX7_second_148 : decode cX7_second 148 = .ok (.iinc 4 1, 3) := by decide +kernel
theorem dX7_second_151 : decode cX7_second 151 = .ok (.goto (-63), 3) := by decide +kernel
theorem dX7_second_154 : decode cX7_second 154 = .ok (.iload_n 3, 1) := by decide +kernel
theorem dX7_second_155 : decode cX7_second 155 = .ok (.ifCond .eq 5, 3) := by decide +kernel
theorem dX7_second_158 : decode cX7_second 158 = .ok (.iload_n 2, 1) := by decide +kernel
theorem dX7_second_159 : decode cX7_second 159 = .ok (.ireturn, 1) := by decide +kernel
theorem dX7_second_160 : decode cX7_second 160 = .ok (.iinc 2 1, 3) := by decide +kernel
theorem dX7_second_163 : decode cX7_second 163 = .ok (.goto (-152), 3) := by decide +kernel
theorem dX7_second_166 : decode cX7_second 166 = .ok (.bipush (-4), 2) := by decide +kernel
theorem dX7_second_168 : decode cX7_second 168 = .ok (.ireturn, 1) := by decide +kernel
set_option maxRecDepth 20000 in
theorem ggX7_thick_X7_clearMany : GoodIn wsX7_thick wsX7_clearMany := goodIn_r _ [9, 10, 11, 12, 8, 13, 4, 14, 15, 16, 17, 18, 19, 20, 21, 22, 23, 24, 25, 26, 27, 28, 29, 1, 30, 31, 32, 33, 34, 35, 36, 37, 38, 39, 40, 41, 42, 43, 44, 45, 46, 47, 48, 49, 50, 51, 52, 53, 54, 55, 56, 57, 58, 59, 60, 61, 62, 63, 64, 65, 66, 67, 68, 69, 70, 71, 72, 73, 74, 75, 76, 77, 78, 79, 80, 81, 82, 83, 84, 85, 86, 87, 88] (by decide +kernel) (by decide +kernel)
set_option maxRecDepth 20000 in
theorem gX7_thick_X7_clearMany : GoodIn wsX7_thick (wsV RX7 197 RX7 yX7_clearMany wsX7_clearMany) := goodIn_app (goodIn_of _ (by decide +kernel)) ggX7_thick_X7_clearMany
theorem dX7_thick_0 : decode cX7_thick 0 = .ok (.aload_n 0, 1) := by decide +kernel
theorem dX7_thick_1 : decode cX7_thick 1 = .ok (.getfield 25, 3) := by decide +kernel
theorem dX7_thick_4 : decode cX7_thick 4 = .ok (.iconst 0, 1) := by decide +kernel
theorem dX7_thick_5 : decode cX7_thick 5 = .ok (.iaload, 1) := by decide +kernel
theorem dX7_thick_6 : decode cX7_thick 6 = .ok (.istore_n 1, 1) := by decide +kernel
theorem dX7_thick_7 : decode cX7_thick 7 = .ok (.bipush (-4), 2) := by decide +kernel
theorem dX7_thick_9 : decode cX7_thick 9 = .ok (.istore_n 2, 1) := by decide +kernel
theorem dX7_thick_10 : decode cX7_thick 10 = .ok (.iconst 1, 1) := by decide +kernel
theorem dX7_thick_11 : decode cX7_thick 11 = .ok (.istore_n 3, 1) := by decide +kernel
theorem dX7_thick_12 : decode cX7_thick 12 = .ok (.iconst 1, 1) := by decide +kernel
theorem dX7_thick_13 : decode cX7_thick 13 = .ok (.istore 4, 2) := by decide +kernel
theorem dX7_thick_15 : decode cX7_thick 15 = .ok (.iload 4, 2) := by decide +kernel
theorem dX7_thick_17 : decode cX7_thick 17 = .ok (.bipush 99, 2) := by decide +kernel
theorem dX7_thick_19 : decode cX7_thick 19 = .ok (.if_icmp .gt 63, 3) := by decide +kernel
theorem dX7_thick_22 : decode cX7_thick 22 = .ok (.iload_n 3, 1) := by decide +kernel
theorem dX7_thick_23 : decode cX7_thick 23 = .ok (.ifCond .eq 59, 3) := by decide +kernel
theorem dX7_thick_26 : decode cX7_thick 26 = .ok (.aload_n 0, 1) := by decide +kernel
theorem dX7_thick_27 : decode cX7_thick 27 = .ok (.getfield 25, 3) := by decide +kernel
theorem dX7_thick_30 : decode cX7_thick 30 = .ok (.iconst 0, 1) := by decide +kernel
theorem dX7_thick_31 : decode cX7_thick 31 = .ok (.iload 4, 2) := by decide +kernel
theorem dX7_thick_33 : decode cX7_thick 33 = .ok (.iastore, 1) := by decide +kernel
theorem dX7_thick_34 : decode cX7_thick 34 = .ok (.aload_n 0, 1) := by decide +kernel
theorem dX7_thick_35 : decode cX7_thick 35 = .ok (.aload_n 0, 1) := by decide +kernel
theorem dX7_thick_36 : decode cX7_thick 36 = .ok (.getfield 40, 3) := by decide +kernel
theorem dX7_thick_39 : decode cX7_thick 39 = .ok (.iconst 0, 1) := by decide +kernel
theorem dX7_thick_40 : decode cX7_thick 40 = .ok (.iaload, 1) := by decide +kernel
theorem dX7_thick_41 : decode cX7_thick 41 = .ok (.aload_n 0, 1) := by decide +kernel
theorem dX7_thick_42 : decode cX7_thick 42 = .ok (.getfield 43, 3) := by decide +kernel
theorem dX7_thick_45 : decode cX7_thick 45 = .ok (.iconst 0, 1) := by decide +kernel
theorem dX7_thick_46 : decode cX7_thick 46 = .ok (.iaload, 1) := by decide +kernel
theorem dX7_thick_47 : decode cX7_thick 47 = .ok (.invokevirtual 197, 3) := by decide +kernel
theorem dX7_thick_50 : decode cX7_thick 50 = .ok (.aload_n 0, 1) := by decide +kernel
theorem dX7_thick_51 : decode cX7_thick 51 = .ok (.getfield 28, 3) := by decide +kernel
theorem dX7_thick_54 : decode cX7_thick 54 = .ok (.iconst 0, 1) := by decide +kernel
theorem dX7_thick_55 : decode cX7_thick 55 = .ok (.iaload, 1) := by decide +kernel
theorem dX7_thick_56 : decode cX7_thick 56 = .ok (.if_icmp .ne 7, 3) := by decide +kernel
theorem dX7_thick_59 : decode cX7_thick 59 = .ok (.iconst 1, 1) := by decide +kernel
theorem dX7_thick_60 : decode cX7_thick 60 = .ok (.goto 4, 3) := by decide +kernel
theorem dX7_thick_63 : decode cX7_thick 63 = .ok (.iconst 0, 1) := by decide +kernel
theorem dX7_thick_64 : decode cX7_thick 64 = .ok (.istore_n 3, 1) := by decide +kernel
theorem dX7_thick_65 : decode cX7_thick 65 = .ok (.iload_n 3, 1) := by decide +kernel
theorem dX7_thick_66 : decode cX7_thick 66 = .ok (.ifCond .eq 8, 3) := by decide +kernel
theorem dX7_thick_69 : decode cX7_thick 69 = .ok (.iload 4, 2) := by decide +kernel
theorem dX7_thick_71 : decode cX7_thick 71 = .ok (.goto 4, 3) := by decide +kernel
theorem dX7_thick_74 : decode cX7_thick 74 = .ok (.iload_n 2, 1) := by decide +kernel
theorem dX7_thick_75 : decode cX7_thick 75 = .ok (.istore_n 2, 1) := by decide +kernel
theorem dX7_thick_76 : decode cX7_thick 76 = .ok (.iinc 4 1, 3) := by decide +kernel
theorem dX7_thick_79 : decode cX7_thick 79 = .ok (.goto (-64), 3) := by decide +kernel
theorem dX7_thick_82 : decode cX7_thick 82 = .ok (.aload_n 0, 1) := by decide +kernel
theorem dX7_thick_83 : decode cX7_thick 83 = .ok (.getfield 25, 3) := by decide +kernel
theorem dX7_thick_86 : decode cX7_thick 86 = .ok (.iconst 0, 1) := by decide +kernel
theorem dX7_thick_87 : decode cX7_thick 87 = .ok (.iload_n 1, 1) := by decide +kernel
theorem dX7_thick_88 : decode cX7_thick 88 = .ok (.iastore, 1) := by decide +kernel
theorem dX7_thick_89 : decode cX7_thick 89 = .ok (.iload_n 2, 1) := by decide +kernel
theorem dX7_thick_90 : decode cX7_thick 90 = .ok (.ireturn, 1) := by decide +kernel
set_option maxRecDepth 20000 in
theorem ggX7_heckle_X7_isYard : GoodIn wsX7_heckle wsX7_isYard := goodIn_r _ [7, 8, 9, 10, 6, 11] (by decide +kernel) (by decide +kernel)
set_option maxRecDepth 20000 in
theorem gX7_heckle_X7_isYard : GoodIn wsX7_heckle (va_wsS RX7 117 yX7_isYard wsX7_isYard) := goodIn_app (goodIn_of _ (by decide +kernel)) ggX7_heckle_X7_isYard
set_option maxRecDepth 20000 in
theorem ggX7_heckle_X7_in : GoodIn wsX7_heckle wsX7_in := goodIn_r _ [11] (by decide +kernel) (by decide +kernel)
set_option maxRecDepth 20000 in
theorem gX7_heckle_X7_in : GoodIn wsX7_heckle (va_wsS RX7 82 yX7_in wsX7_in) := goodIn_app (goodIn_of _ (by decide +kernel)) ggX7_heckle_X7_in
set_option maxRecDepth 20000 in
theorem ggX7_heckle_X7_sayAll : GoodIn wsX7_heckle wsX7_sayAll := goodIn_r _ [15, 16, 17, 18, 19, 20, 21, 22, 6, 23, 24, 25, 26, 27, 28, 29, 30, 31, 32, 33, 34, 35, 36, 37, 38, 39, 40, 41, 42, 43, 44, 45, 46, 47, 48, 49, 50, 51, 52, 53, 62, 63, 64, 65, 66, 67, 68, 69, 70, 71, 72, 73, 74, 75, 76, 77, 78, 79, 80, 81, 82, 83, 84, 85, 86, 87, 88, 89] (by decide +kernel) (by decide +kernel)
set_option maxRecDepth 20000 in
theorem gX7_heckle_X7_sayAll : GoodIn wsX7_heckle (wsV RX7 186 RX7 yX7_sayAll wsX7_sayAll) := goodIn_app (goodIn_of _ (by decide +kernel)) ggX7_heckle_X7_sayAll
set_option maxRecDepth 20000 in
theorem ggX7_heckle_X7_clearOf : GoodIn wsX7_heckle wsX7_clearOf := goodIn_r _ [57, 16, 58, 59, 60, 6, 61, 17, 19, 33, 25, 18, 37, 38, 39, 62, 63, 64, 65, 66, 67, 68, 69, 70, 71, 72, 73, 74, 75, 76, 77, 78, 79, 80, 81, 82, 83, 84, 85, 86, 87, 88, 89] (by decide +kernel) (by decide +kernel)
set_option maxRecDepth 20000 in
theorem gX7_heckle_X7_clearOf : GoodIn wsX7_heckle (wsV RX7 191 RX7 yX7_clearOf wsX7_clearOf) := goodIn_app (goodIn_of _ (by decide +kernel)) ggX7_heckle_X7_clearOf
set_option maxRecDepth 20000 in
theorem ggX7_heckle_X7_say1 : GoodIn wsX7_heckle wsX7_say1 := goodIn_r _ [32, 33, 34, 35, 36, 37, 38, 6, 39, 40, 41, 42, 43, 24, 25, 26, 27, 28, 44, 45, 46, 47, 48, 49, 50, 51, 52, 53, 62, 63, 64, 65, 66, 67, 68, 69, 70, 71, 72, 73, 74, 75, 76, 77, 78, 79, 80, 81, 82, 83, 84, 85, 86, 87, 88, 89] (by decide +kernel) (by decide +kernel)
set_option maxRecDepth 20000 in
theorem gX7_heckle_X7_say1 : GoodIn wsX7_heckle (wsV RX7 176 RX7 yX7_say1 wsX7_say1) := goodIn_app (goodIn_of _ (by decide +kernel)) ggX7_heckle_X7_say1
theorem dX7_heckle_0 : decode cX7_heckle 0 = .ok (.iload_n 1, 1) := by decide +kernel
theorem dX7_heckle_1 : decode cX7_heckle 1 = .ok (.invokestatic 117, 3) := by decide +kernel
theorem dX7_heckle_4 : decode cX7_heckle 4 = .ok (.ifCond .eq 25, 3) := by decide +kernel
theorem dX7_heckle_7 : decode cX7_heckle 7 = .ok (.iload_n 2, 1) := by decide +kernel
theorem dX7_heckle_8 : decode cX7_heckle 8 = .ok (.i2l, 1) := by decide +kernel
theorem dX7_heckle_9 : decode cX7_heckle 9 = .ok (.lconst 1, 1) := by decide +kernel
theorem dX7_heckle_10 : decode cX7_heckle 10 = .ok (.ldc2_w 109, 3) := by decide +kernel
theorem dX7_heckle_13 : decode cX7_heckle 13 = .ok (.invokestatic 82, 3) := by decide +kernel
theorem dX7_heckle_16 : decode cX7_heckle 16 = .ok (.ifCond .eq 13, 3) := by decide +kernel
theorem dX7_heckle_19 : decode cX7_heckle 19 = .ok (.iload_n 3, 1) := by decide +kernel
theorem dX7_heckle_20 : decode cX7_heckle 20 = .ok (.i2l, 1) := by decide +kernel
theorem dX7_heckle_21 : decode cX7_heckle 21 = .ok (.lconst 0, 1) := by decide +kernel
theorem dX7_heckle_22 : decode cX7_heckle 22 = .ok (.lconst 1, 1) := by decide +kernel
theorem dX7_heckle_23 : decode cX7_heckle 23 = .ok (.invokestatic 82, 3) := by decide +kernel
theorem dX7_heckle_26 : decode cX7_heckle 26 = .ok (.ifCond .ne 5, 3) := by decide +kernel
theorem dX7_heckle_29 : decode cX7_heckle 29 = .ok (.iconst (-1), 1) := by decide +kernel
theorem dX7_heckle_30 : decode cX7_heckle 30 = .ok (.ireturn, 1) := by decide +kernel
theorem dX7_heckle_31 : decode cX7_heckle 31 = .ok (.aload_n 0, 1) := by decide +kernel
theorem dX7_heckle_32 : decode cX7_heckle 32 = .ok (.aload_n 0, 1) := by decide +kernel
theorem dX7_heckle_33 : decode cX7_heckle 33 = .ok (.getfield 40, 3) := by decide +kernel
theorem dX7_heckle_36 : decode cX7_heckle 36 = .ok (.iconst 0, 1) := by decide +kernel
theorem dX7_heckle_37 : decode cX7_heckle 37 = .ok (.iaload, 1) := by decide +kernel
theorem dX7_heckle_38 : decode cX7_heckle 38 = .ok (.aload_n 0, 1) := by decide +kernel
theorem dX7_heckle_39 : decode cX7_heckle 39 = .ok (.getfield 43, 3) := by decide +kernel
theorem dX7_heckle_42 : decode cX7_heckle 42 = .ok (.iconst 0, 1) := by decide +kernel
theorem dX7_heckle_43 : decode cX7_heckle 43 = .ok (.iaload, 1) := by decide +kernel
theorem dX7_heckle_44 : decode cX7_heckle 44 = .ok (.iconst 0, 1) := by decide +kernel
theorem dX7_heckle_45 : decode cX7_heckle 45 = .ok (.invokevirtual 186, 3) := by decide +kernel
theorem dX7_heckle_48 : decode cX7_heckle 48 = .ok (.aload_n 0, 1) := by decide +kernel
theorem dX7_heckle_49 : decode cX7_heckle 49 = .ok (.aload_n 0, 1) := by decide +kernel
theorem dX7_heckle_50 : decode cX7_heckle 50 = .ok (.getfield 40, 3) := by decide +kernel
theorem dX7_heckle_53 : decode cX7_heckle 53 = .ok (.iconst 0, 1) := by decide +kernel
theorem dX7_heckle_54 : decode cX7_heckle 54 = .ok (.iaload, 1) := by decide +kernel
theorem dX7_heckle_55 : decode cX7_heckle 55 = .ok (.aload_n 0, 1) := by decide +kernel
theorem dX7_heckle_56 : decode cX7_heckle 56 = .ok (.getfield 43, 3) := by decide +kernel
theorem dX7_heckle_59 : decode cX7_heckle 59 = .ok (.iconst 0, 1) := by decide +kernel
theorem dX7_heckle_60 : decode cX7_heckle 60 = .ok (.iaload, 1) := by decide +kernel
theorem dX7_heckle_61 : decode cX7_heckle 61 = .ok (.invokevirtual 191, 3) := by decide +kernel
theorem dX7_heckle_64 : decode cX7_heckle 64 = .ok (.istore 4, 2) := by decide +kernel
theorem dX7_heckle_66 : decode cX7_heckle 66 = .ok (.iconst 1, 1) := by decide +kernel
theorem dX7_heckle_67 : decode cX7_heckle 67 = .ok (.istore 5, 2) := by decide +kernel
theorem dX7_heckle_69 : decode cX7_heckle 69 = .ok (.iload 5, 2) := by decide +kernel
theorem dX7_heckle_71 : decode cX7_heckle 71 = .ok (.bipush 60, 2) := by decide +kernel
theorem dX7_heckle_73 : decode cX7_heckle 73 = .ok (.if_icmp .gt 99, 3) := by decide +kernel
theorem dX7_heckle_76 : decode cX7_heckle 76 = .ok (.iload 4, 2) := by decide +kernel
theorem dX7_heckle_78 : decode cX7_heckle 78 = .ok (.ifCond .eq 94, 3) := by decide +kernel
theorem dX7_heckle_81 : decode cX7_heckle 81 = .ok (.iconst 0, 1) := by decide +kernel
theorem dX7_heckle_82 : decode cX7_heckle 82 = .ok (.istore 6, 2) := by decide +kernel
theorem dX7_heckle_84 : decode cX7_heckle 84 = .ok (.iload 6, 2) := by decide +kernel
theorem dX7_heckle_86 : decode cX7_heckle 86 = .ok (.bipush 60, 2) := by decide +kernel
theorem dX7_heckle_88 : decode cX7_heckle 88 = .ok (.if_icmp .gt 78, 3) := by decide +kernel
theorem dX7_heckle_91 : decode cX7_heckle 91 = .ok (.aload_n 0, 1) := by decide +kernel
theorem dX7_heckle_92 : decode cX7_heckle 92 = .ok (.aload_n 0, 1) := by decide +kernel
theorem dX7_heckle_93 : decode cX7_heckle 93 = .ok (.getfield 40, 3) := by decide +kernel
theorem dX7_heckle_96 : decode cX7_heckle 96 = .ok (.iconst 0, 1) := by decide +kernel
theorem dX7_heckle_97 : decode cX7_heckle 97 = .ok (.iaload, 1) := by decide +kernel
theorem dX7_heckle_98 : decode cX7_heckle 98 = .ok (.aload_n 0, 1) := by decide +kernel
theorem dX7_heckle_99 : decode cX7_heckle 99 = .ok (.getfield 43, 3) := by decide +kernel
theorem dX7_heckle_102 : decode cX7_heckle 102 = .ok (.iconst 0, 1) := by decide +kernel
theorem dX7_heckle_103 : decode cX7_heckle 103 = .ok (.iaload, 1) := by decide +kernel
theorem dX7_heckle_104 : decode cX7_heckle 104 = .ok (.iconst 0, 1) := by decide +kernel
theorem dX7_heckle_105 : decode cX7_heckle 105 = .ok (.invokevirtual 186, 3) := by decide +kernel
theorem dX7_heckle_108 : decode cX7_heckle 108 = .ok (.aload_n 0, 1) := by decide +kernel
theorem dX7_heckle_109 : decode cX7_heckle 109 = .ok (.iload_n 1, 1) := by decide +kernel
theorem dX7_heckle_110 : decode cX7_heckle 110 = .ok (.iload 6, 2) := by decide +kernel
theorem dX7_heckle_112 : decode cX7_heckle 112 = .ok (.iload_n 2, 1) := by decide +kernel
theorem dX7_heckle_113 : decode cX7_heckle 113 = .ok (.iload 5, 2) := by decide +kernel
theorem dX7_heckle_115 : decode cX7_heckle 115 = .ok (.aload_n 0, 1) := by decide +kernel
theorem dX7_heckle_116 : decode cX7_heckle 116 = .ok (.getfield 43, 3) := by decide +kernel
theorem dX7_heckle_119 : decode cX7_heckle 119 = .ok (.iconst 0, 1) := by decide +kernel
theorem dX7_heckle_120 : decode cX7_heckle 120 = .ok (.iaload, 1) := by decide +kernel
theorem dX7_heckle_121 : decode cX7_heckle 121 = .ok (.invokevirtual 176, 3) := by decide +kernel
theorem dX7_heckle_124 : decode cX7_heckle 124 = .ok (.iload 4, 2) := by decide +kernel
theorem dX7_heckle_126 : decode cX7_heckle 126 = .ok (.aload_n 0, 1) := by decide +kernel
theorem dX7_heckle_127 : decode cX7_heckle 127 = .ok (.aload_n 0, 1) := by decide +kernel
theorem dX7_heckle_128 : decode cX7_heckle 128 = .ok (.getfield 40, 3) := by decide +kernel
theorem dX7_heckle_131 : decode cX7_heckle 131 = .ok (.iconst 0, 1) := by decide +kernel
theorem dX7_heckle_132 : decode cX7_heckle 132 = .ok (.iaload, 1) := by decide +kernel
theorem dX7_heckle_133 : decode cX7_heckle 133 = .ok (.aload_n 0, 1) := by decide +kernel
theorem dX7_heckle_134 : decode cX7_heckle 134 = .ok (.getfield 43, 3) := by decide +kernel
theorem dX7_heckle_137 : decode cX7_heckle 137 = .ok (.iconst 0, 1) := by decide +kernel
theorem dX7_heckle_138 : decode cX7_heckle 138 = .ok (.iaload, 1) := by decide +kernel
theorem dX7_heckle_139 : decode cX7_heckle 139 = .ok (.invokevirtual 191, 3) := by decide +kernel
theorem dX7_heckle_142 : decode cX7_heckle 142 = .ok (.iconst (-1), 1) := by decide +kernel
theorem dX7_heckle_143 : decode cX7_heckle 143 = .ok (.ixor, 1) := by decide +kernel
theorem dX7_heckle_144 : decode cX7_heckle 144 = .ok (.iand, 1) := by decide +kernel
theorem dX7_heckle_145 : decode cX7_heckle 145 = .ok (.ifCond .eq 15, 3) := by decide +kernel
theorem dX7_heckle_148 : decode cX7_heckle 148 = .ok (.iload_n 3, 1) := by decide +kernel
theorem dX7_heckle_149 : decode cX7_heckle 149 = .ok (.ifCond .ne 8, 3) := by decide +kernel
theorem dX7_heckle_152 : decode cX7_heckle 152 = .ok (.iload 5, 2) := by decide +kernel
theorem dX7_heckle_154 : decode cX7_heckle 154 = .ok (.goto 5, 3) := by decide +kernel
theorem dX7_heckle_157 : decode cX7_heckle 157 = .ok (.iload 6, 2) := by decide +kernel
theorem dX7_heckle_159 : decode cX7_heckle 159 = .ok (.ireturn, 1) := by decide +kernel
theorem dX7_heckle_160 : decode cX7_heckle 160 = .ok (.iinc 6 1, 3) := by decide +kernel
theorem dX7_heckle_163 : decode cX7_heckle 163 = .ok (.goto (-79), 3) := by decide +kernel
theorem dX7_heckle_166 : decode cX7_heckle 166 = .ok (.iinc 5 1, 3) := by decide +kernel
theorem dX7_heckle_169 : decode cX7_heckle 169 = .ok (.goto (-100), 3) := by decide +kernel
theorem dX7_heckle_172 : decode cX7_heckle 172 = .ok (.bipush (-4), 2) := by decide +kernel
theorem dX7_heckle_174 : decode cX7_heckle 174 = .ok (.ireturn, 1) := by decide +kernel
set_option maxRecDepth 20000 in
theorem ggX7_ear_X7_isYard : GoodIn wsX7_ear wsX7_isYard := goodIn_r _ [10, 11, 12, 13, 9, 14] (by decide +kernel) (by decide +kernel)
set_option maxRecDepth 20000 in
theorem gX7_ear_X7_isYard : GoodIn wsX7_ear (va_wsS RX7 117 yX7_isYard wsX7_isYard) := goodIn_app (goodIn_of _ (by decide +kernel)) ggX7_ear_X7_isYard
set_option maxRecDepth 20000 in
theorem ggX7_ear_X7_in : GoodIn wsX7_ear wsX7_in := goodIn_r _ [14] (by decide +kernel) (by decide +kernel)
set_option maxRecDepth 20000 in
theorem gX7_ear_X7_in : GoodIn wsX7_ear (va_wsS RX7 82 yX7_in wsX7_in) := goodIn_app (goodIn_of _ (by decide +kernel)) ggX7_ear_X7_in
theorem dX7_ear_0 : decode cX7_ear 0 = .ok (.iload_n 1, 1) := by decide +kernel
theorem dX7_ear_1 : decode cX7_ear 1 = .ok (.invokestatic 117, 3) := by decide +kernel
theorem dX7_ear_4 : decode cX7_ear 4 = .ok (.ifCond .eq 27, 3) := by decide +kernel
theorem dX7_ear_7 : decode cX7_ear 7 = .ok (.iload_n 2, 1) := by decide +kernel
theorem dX7_ear_8 : decode cX7_ear 8 = .ok (.i2l, 1) := by decide +kernel
theorem dX7_ear_9 : decode cX7_ear 9 = .ok (.lconst 0, 1) := by decide +kernel
theorem dX7_ear_10 : decode cX7_ear 10 = .ok (.ldc2_w 189, 3) := by decide +kernel
theorem dX7_ear_13 : decode cX7_ear 13 = .ok (.invokestatic 82, 3) := by decide +kernel
theorem dX7_ear_16 : decode cX7_ear 16 = .ok (.ifCond .eq 15, 3) := by decide +kernel
theorem dX7_ear_19 : decode cX7_ear 19 = .ok (.iload_n 3, 1) := by decide +kernel
theorem dX7_ear_20 : decode cX7_ear 20 = .ok (.i2l, 1) := by decide +kernel
theorem dX7_ear_21 : decode cX7_ear 21 = .ok (.lconst 0, 1) := by decide +kernel
theorem dX7_ear_22 : decode cX7_ear 22 = .ok (.ldc2_w 80, 3) := by decide +kernel
theorem dX7_ear_25 : decode cX7_ear 25 = .ok (.invokestatic 82, 3) := by decide +kernel
theorem dX7_ear_28 : decode cX7_ear 28 = .ok (.ifCond .ne 5, 3) := by decide +kernel
theorem dX7_ear_31 : decode cX7_ear 31 = .ok (.iconst (-1), 1) := by decide +kernel
theorem dX7_ear_32 : decode cX7_ear 32 = .ok (.ireturn, 1) := by decide +kernel
theorem dX7_ear_33 : decode cX7_ear 33 = .ok (.aload_n 0, 1) := by decide +kernel
theorem dX7_ear_34 : decode cX7_ear 34 = .ok (.getfield 151, 3) := by decide +kernel
theorem dX7_ear_37 : decode cX7_ear 37 = .ok (.bipush 9, 2) := by decide +kernel
theorem dX7_ear_39 : decode cX7_ear 39 = .ok (.if_icmp .ne 6, 3) := by decide +kernel
theorem dX7_ear_42 : decode cX7_ear 42 = .ok (.bipush (-3), 2) := by decide +kernel
theorem dX7_ear_44 : decode cX7_ear 44 = .ok (.ireturn, 1) := by decide +kernel
theorem dX7_ear_45 : decode cX7_ear 45 = .ok (.aload_n 0, 1) := by decide +kernel
theorem dX7_ear_46 : decode cX7_ear 46 = .ok (.getfield 55, 3) := by decide +kernel
theorem dX7_ear_49 : decode cX7_ear 49 = .ok (.aload_n 0, 1) := by decide +kernel
theorem dX7_ear_50 : decode cX7_ear 50 = .ok (.getfield 151, 3) := by decide +kernel
theorem dX7_ear_53 : decode cX7_ear 53 = .ok (.iload_n 1, 1) := by decide +kernel
theorem dX7_ear_54 : decode cX7_ear 54 = .ok (.iastore, 1) := by decide +kernel
theorem dX7_ear_55 : decode cX7_ear 55 = .ok (.aload_n 0, 1) := by decide +kernel
theorem dX7_ear_56 : decode cX7_ear 56 = .ok (.getfield 58, 3) := by decide +kernel
theorem dX7_ear_59 : decode cX7_ear 59 = .ok (.aload_n 0, 1) := by decide +kernel
theorem dX7_ear_60 : decode cX7_ear 60 = .ok (.getfield 151, 3) := by decide +kernel
theorem dX7_ear_63 : decode cX7_ear 63 = .ok (.iload_n 2, 1) := by decide +kernel
theorem dX7_ear_64 : decode cX7_ear 64 = .ok (.iastore, 1) := by decide +kernel
theorem dX7_ear_65 : decode cX7_ear 65 = .ok (.aload_n 0, 1) := by decide +kernel
theorem dX7_ear_66 : decode cX7_ear 66 = .ok (.getfield 61, 3) := by decide +kernel
theorem dX7_ear_69 : decode cX7_ear 69 = .ok (.aload_n 0, 1) := by decide +kernel
theorem dX7_ear_70 : decode cX7_ear 70 = .ok (.getfield 151, 3) := by decide +kernel
theorem dX7_ear_73 : decode cX7_ear 73 = .ok (.iload_n 3, 1) := by decide +kernel
theorem dX7_ear_74 : decode cX7_ear 74 = .ok (.iastore, 1) := by decide +kernel
theorem dX7_ear_75 : decode cX7_ear 75 = .ok (.aload_n 0, 1) := by decide +kernel
theorem dX7_ear_76 : decode cX7_ear 76 = .ok (.dup, 1) := by decide +kernel
theorem dX7_ear_77 : decode cX7_ear 77 = .ok (.getfield 151, 3) := by decide +kernel
theorem dX7_ear_80 : decode cX7_ear 80 = .ok (.iconst 1, 1) := by decide +kernel
theorem dX7_ear_81 : decode cX7_ear 81 = .ok (.iadd, 1) := by decide +kernel
theorem dX7_ear_82 : decode cX7_ear 82 = .ok (.putfield 151, 3) := by decide +kernel
theorem dX7_ear_85 : decode cX7_ear 85 = .ok (.aload_n 0, 1) := by decide +kernel
theorem dX7_ear_86 : decode cX7_ear 86 = .ok (.getfield 151, 3) := by decide +kernel
theorem dX7_ear_89 : decode cX7_ear 89 = .ok (.ireturn, 1) := by decide +kernel
theorem dX7_noEars_0 : decode cX7_noEars 0 = .ok (.aload_n 0, 1) := by decide +kernel
theorem dX7_noEars_1 : decode cX7_noEars 1 = .ok (.getfield 151, 3) := by decide +kernel
theorem dX7_noEars_4 : decode cX7_noEars 4 = .ok (.istore_n 1, 1) := by decide +kernel
theorem dX7_noEars_5 : decode cX7_noEars 5 = .ok (.aload_n 0, 1) := by decide +kernel
theorem dX7_noEars_6 : decode cX7_noEars 6 = .ok (.iconst 0, 1) := by decide +kernel
theorem dX7_noEars_7 : decode cX7_noEars 7 = .ok (.putfield 151, 3) := by decide +kernel
theorem dX7_noEars_10 : decode cX7_noEars 10 = .ok (.iload_n 1, 1) := by decide +kernel
theorem dX7_noEars_11 : decode cX7_noEars 11 = .ok (.ireturn, 1) := by decide +kernel
set_option maxRecDepth 20000 in
theorem ggX7_isHeardSo_X7_sayAll : GoodIn wsX7_isHeardSo wsX7_sayAll := goodIn_r _ [10, 11, 12, 13, 14, 15, 16, 17, 9, 18, 19, 3, 20, 21, 22, 23, 24, 25, 26, 27, 28, 29, 30, 31, 32, 33, 34, 35, 36, 37, 38, 39, 40, 41, 42, 43, 44, 45, 46, 47, 48, 49, 50, 51, 52, 53, 54, 55, 56, 57, 58, 59, 60, 61, 62, 63, 64, 65, 66, 67, 68, 69, 70, 71, 72, 73, 74, 75] (by decide +kernel) (by decide +kernel)
set_option maxRecDepth 20000 in
theorem gX7_isHeardSo_X7_sayAll : GoodIn wsX7_isHeardSo (wsV RX7 186 RX7 yX7_sayAll wsX7_sayAll) := goodIn_app (goodIn_of _ (by decide +kernel)) ggX7_isHeardSo_X7_sayAll
theorem dX7_isHeardSo_0 : decode cX7_isHeardSo 0 = .ok (.iconst 0, 1) := by decide +kernel
theorem dX7_isHeardSo_1 : decode cX7_isHeardSo 1 = .ok (.istore_n 2, 1) := by decide +kernel
theorem dX7_isHeardSo_2 : decode cX7_isHeardSo 2 = .ok (.iload_n 2, 1) := by decide +kernel
theorem dX7_isHeardSo_3 : decode cX7_isHeardSo 3 = .ok (.aload_n 0, 1) := by decide +kernel
theorem dX7_isHeardSo_4 : decode cX7_isHeardSo 4 = .ok (.getfield 151, 3) := by decide +kernel
theorem dX7_isHeardSo_7 : decode cX7_isHeardSo 7 = .ok (.if_icmp .ge 43, 3) := by decide +kernel
theorem dX7_isHeardSo_10 : decode cX7_isHeardSo 10 = .ok (.aload_n 0, 1) := by decide +kernel
theorem dX7_isHeardSo_11 : decode cX7_isHeardSo 11 = .ok (.iload_n 1, 1) := by decide +kernel
theorem dX7_isHeardSo_12 : decode cX7_isHeardSo 12 = .ok (.aload_n 0, 1) := by decide +kernel
theorem dX7_isHeardSo_13 : decode cX7_isHeardSo 13 = .ok (.getfield 55, 3) := by decide +kernel
theorem dX7_isHeardSo_16 : decode cX7_isHeardSo 16 = .ok (.iload_n 2, 1) := by decide +kernel
theorem dX7_isHeardSo_17 : decode cX7_isHeardSo 17 = .ok (.iaload, 1) := by decide +kernel
theorem dX7_isHeardSo_18 : decode cX7_isHeardSo 18 = .ok (.iconst 0, 1) := by decide +kernel
theorem dX7_isHeardSo_19 : decode cX7_isHeardSo 19 = .ok (.invokevirtual 186, 3) := by decide +kernel
theorem dX7_isHeardSo_22 : decode cX7_isHeardSo 22 = .ok (.aload_n 0, 1) := by decide +kernel
theorem dX7_isHeardSo_23 : decode cX7_isHeardSo 23 = .ok (.getfield 70, 3) := by decide +kernel
theorem dX7_isHeardSo_26 : decode cX7_isHeardSo 26 = .ok (.aload_n 0, 1) := by decide +kernel
theorem dX7_isHeardSo_27 : decode cX7_isHeardSo 27 = .ok (.getfield 58, 3) := by decide +kernel
theorem dX7_isHeardSo_30 : decode cX7_isHeardSo 30 = .ok (.iload_n 2, 1) := by decide +kernel
theorem dX7_isHeardSo_31 : decode cX7_isHeardSo 31 = .ok (.iaload, 1) := by decide +kernel
theorem dX7_isHeardSo_32 : decode cX7_isHeardSo 32 = .ok (.iaload, 1) := by decide +kernel
theorem dX7_isHeardSo_33 : decode cX7_isHeardSo 33 = .ok (.aload_n 0, 1) := by decide +kernel
theorem dX7_isHeardSo_34 : decode cX7_isHeardSo 34 = .ok (.getfield 61, 3) := by decide +kernel
theorem dX7_isHeardSo_37 : decode cX7_isHeardSo 37 = .ok (.iload_n 2, 1) := by decide +kernel
theorem dX7_isHeardSo_38 : decode cX7_isHeardSo 38 = .ok (.iaload, 1) := by decide +kernel
theorem dX7_isHeardSo_39 : decode cX7_isHeardSo 39 = .ok (.if_icmp .eq 5, 3) := by decide +kernel
theorem dX7_isHeardSo_42 : decode cX7_isHeardSo 42 = .ok (.iconst 0, 1) := by decide +kernel
theorem dX7_isHeardSo_43 : decode cX7_isHeardSo 43 = .ok (.ireturn, 1) := by decide +kernel
theorem dX7_isHeardSo_44 : decode cX7_isHeardSo 44 = .ok (.iinc 2 1, 3) := by decide +kernel
theorem dX7_isHeardSo_47 : decode cX7_isHeardSo 47 = .ok (.goto (-45), 3) := by decide +kernel
theorem dX7_isHeardSo_50 : decode cX7_isHeardSo 50 = .ok (.iconst 1, 1) := by decide +kernel
theorem dX7_isHeardSo_51 : decode cX7_isHeardSo 51 = .ok (.ireturn, 1) := by decide +kernel
set_option maxRecDepth 20000 in
theorem ggX7_stood_X7_in : GoodIn wsX7_stood wsX7_in := goodIn_r _ [4] (by decide +kernel) (by decide +kernel)
set_option maxRecDepth 20000 in
theorem gX7_stood_X7_in : GoodIn wsX7_stood (va_wsS RX7 82 yX7_in wsX7_in) := goodIn_app (goodIn_of _ (by decide +kernel)) ggX7_stood_X7_in
set_option maxRecDepth 20000 in
theorem ggX7_stood_X7_isHeardSo : GoodIn wsX7_stood wsX7_isHeardSo := goodIn_r _ [8, 9, 10, 11, 12, 13, 14, 15, 16, 3, 17, 18, 19, 20, 21, 22, 23, 24, 25, 26, 27, 28, 29, 30, 31, 32, 33, 34, 35, 36, 37, 38, 39, 40, 41, 42, 43, 44, 45, 46, 47, 48, 49, 50, 51, 52, 53, 54, 55, 56, 57, 58, 59, 60, 61, 62, 63, 64, 65, 66, 67, 68, 69, 70, 71, 72, 73, 74, 75, 76, 77, 78, 79, 80, 81, 82] (by decide +kernel) (by decide +kernel)
set_option maxRecDepth 20000 in
theorem gX7_stood_X7_isHeardSo : GoodIn wsX7_stood (wsV RX7 218 RX7 yX7_isHeardSo wsX7_isHeardSo) := goodIn_app (goodIn_of _ (by decide +kernel)) ggX7_stood_X7_isHeardSo
theorem dX7_stood_0 : decode cX7_stood 0 = .ok (.iload_n 1, 1) := by decide +kernel
theorem dX7_stood_1 : decode cX7_stood 1 = .ok (.i2l, 1) := by decide +kernel
theorem dX7_stood_2 : decode cX7_stood 2 = .ok (.lconst 0, 1) := by decide +kernel
theorem dX7_stood_3 : decode cX7_stood 3 = .ok (.lconst 1, 1) := by decide +kernel
theorem dX7_stood_4 : decode cX7_stood 4 = .ok (.invokestatic 82, 3) := by decide +kernel
theorem dX7_stood_7 : decode cX7_stood 7 = .ok (.ifCond .ne 5, 3) := by decide +kernel
theorem dX7_stood_10 : decode cX7_stood 10 = .ok (.iconst (-1), 1) := by decide +kernel
theorem dX7_stood_11 : decode cX7_stood 11 = .ok (.ireturn, 1) := by decide +kernel
theorem dX7_stood_12 : decode cX7_stood 12 = .ok (.iconst 0, 1) := by decide +kernel
theorem dX7_stood_13 : decode cX7_stood 13 = .ok (.istore_n 2, 1) := by decide +kernel
theorem dX7_stood_14 : decode cX7_stood 14 = .ok (.bipush (-4), 2) := by decide +kernel
theorem dX7_stood_16 : decode cX7_stood 16 = .ok (.istore_n 3, 1) := by decide +kernel
theorem dX7_stood_17 : decode cX7_stood 17 = .ok (.bipush 40, 2) := by decide +kernel
theorem dX7_stood_19 : decode cX7_stood 19 = .ok (.istore 4, 2) := by decide +kernel
theorem dX7_stood_21 : decode cX7_stood 21 = .ok (.iload 4, 2) := by decide +kernel
theorem dX7_stood_23 : decode cX7_stood 23 = .ok (.ifCond .lt 42, 3) := by decide +kernel
theorem dX7_stood_26 : decode cX7_stood 26 = .ok (.aload_n 0, 1) := by decide +kernel
theorem dX7_stood_27 : decode cX7_stood 27 = .ok (.iload 4, 2) := by decide +kernel
theorem dX7_stood_29 : decode cX7_stood 29 = .ok (.invokevirtual 218, 3) := by decide +kernel
theorem dX7_stood_32 : decode cX7_stood 32 = .ok (.istore 5, 2) := by decide +kernel
theorem dX7_stood_34 : decode cX7_stood 34 = .ok (.iload_n 2, 1) := by decide +kernel
theorem dX7_stood_35 : decode cX7_stood 35 = .ok (.iload 5, 2) := by decide +kernel
theorem dX7_stood_37 : decode cX7_stood 37 = .ok (.ifCond .eq 7, 3) := by decide +kernel
theorem dX7_stood_40 : decode cX7_stood 40 = .ok (.iconst 1, 1) := by decide +kernel
theorem dX7_stood_41 : decode cX7_stood 41 = .ok (.goto 4, 3) := by decide +kernel
theorem dX7_stood_44 : decode cX7_stood 44 = .ok (.iconst 0, 1) := by decide +kernel
theorem dX7_stood_45 : decode cX7_stood 45 = .ok (.iadd, 1) := by decide +kernel
theorem dX7_stood_46 : decode cX7_stood 46 = .ok (.istore_n 2, 1) := by decide +kernel
theorem dX7_stood_47 : decode cX7_stood 47 = .ok (.iload 5, 2) := by decide +kernel
theorem dX7_stood_49 : decode cX7_stood 49 = .ok (.ifCond .eq 8, 3) := by decide +kernel
theorem dX7_stood_52 : decode cX7_stood 52 = .ok (.iload 4, 2) := by decide +kernel
theorem dX7_stood_54 : decode cX7_stood 54 = .ok (.goto 4, 3) := by decide +kernel
theorem dX7_stood_57 : decode cX7_stood 57 = .ok (.iload_n 3, 1) := by decide +kernel
theorem dX7_stood_58 : decode cX7_stood 58 = .ok (.istore_n 3, 1) := by decide +kernel
theorem dX7_stood_59 : decode cX7_stood 59 = .ok (.iinc 4 (-1), 3) := by decide +kernel
theorem dX7_stood_62 : decode cX7_stood 62 = .ok (.goto (-41), 3) := by decide +kernel
theorem dX7_stood_65 : decode cX7_stood 65 = .ok (.iload_n 1, 1) := by decide +kernel
theorem dX7_stood_66 : decode cX7_stood 66 = .ok (.ifCond .ne 7, 3) := by decide +kernel
theorem dX7_stood_69 : decode cX7_stood 69 = .ok (.iload_n 2, 1) := by decide +kernel
theorem dX7_stood_70 : decode cX7_stood 70 = .ok (.goto 4, 3) := by decide +kernel
theorem dX7_stood_73 : decode cX7_stood 73 = .ok (.iload_n 3, 1) := by decide +kernel
theorem dX7_stood_74 : decode cX7_stood 74 = .ok (.ireturn, 1) := by decide +kernel
set_option maxRecDepth 20000 in
theorem ggX7_moved_X7_isHeardSo : GoodIn wsX7_moved wsX7_isHeardSo := goodIn_r _ [8, 9, 10, 11, 12, 13, 14, 15, 16, 7, 17, 18, 19, 20, 21, 22, 23, 24, 25, 26, 27, 28, 29, 30, 31, 32, 33, 34, 1, 35, 36, 37, 38, 39, 40, 41, 42, 43, 44, 45, 46, 47, 2, 48, 49, 50, 51, 52, 53, 54, 55, 56, 57, 58, 59, 60, 61, 62, 63, 64, 65, 66, 67, 68, 69, 70, 71, 72, 73, 74, 75, 76, 77, 78, 79, 80] (by decide +kernel) (by decide +kernel)
set_option maxRecDepth 20000 in
theorem gX7_moved_X7_isHeardSo : GoodIn wsX7_moved (wsV RX7 218 RX7 yX7_isHeardSo wsX7_isHeardSo) := goodIn_app (goodIn_of _ (by decide +kernel)) ggX7_moved_X7_isHeardSo
theorem dX7_moved_0 : decode cX7_moved 0 = .ok (.bipush (-4), 2) := by decide +kernel
theorem dX7_moved_2 : decode cX7_moved 2 = .ok (.istore_n 1, 1) := by decide +kernel
theorem dX7_moved_3 : decode cX7_moved 3 = .ok (.iconst 0, 1) := by decide +kernel
theorem dX7_moved_4 : decode cX7_moved 4 = .ok (.istore_n 2, 1) := by decide +kernel
theorem dX7_moved_5 : decode cX7_moved 5 = .ok (.iload_n 2, 1) := by decide +kernel
theorem dX7_moved_6 : decode cX7_moved 6 = .ok (.aload_n 0, 1) := by decide +kernel
theorem dX7_moved_7 : decode cX7_moved 7 = .ok (.getfield 13, 3) := by decide +kernel
theorem dX7_moved_10 : decode cX7_moved 10 = .ok (.iconst 0, 1) := by decide +kernel
theorem dX7_moved_11 : decode cX7_moved 11 = .ok (.iaload, 1) := by decide +kernel
theorem dX7_moved_12 : decode cX7_moved 12 = .ok (.if_icmp .ge 87, 3) := by decide +kernel
theorem dX7_moved_15 : decode cX7_moved 15 = .ok (.iload_n 1, 1) := by decide +kernel
theorem dX7_moved_16 : decode cX7_moved 16 = .ok (.ifCond .ge 83, 3) := by decide +kernel
theorem dX7_moved_19 : decode cX7_moved 19 = .ok (.aload_n 0, 1) := by decide +kernel
theorem dX7_moved_20 : decode cX7_moved 20 = .ok (.getfield 16, 3) := by decide +kernel
theorem dX7_moved_23 : decode cX7_moved 23 = .ok (.iload_n 2, 1) := by decide +kernel
theorem dX7_moved_24 : decode cX7_moved 24 = .ok (.iaload, 1) := by decide +kernel
theorem dX7_moved_25 : decode cX7_moved 25 = .ok (.istore_n 3, 1) := by decide +kernel
theorem dX7_moved_26 : decode cX7_moved 26 = .ok (.iconst 0, 1) := by decide +kernel
theorem dX7_moved_27 : decode cX7_moved 27 = .ok (.istore 4, 2) := by decide +kernel
theorem dX7_moved_29 : decode cX7_moved 29 = .ok (.iload 4, 2) := by decide +kernel
theorem dX7_moved_31 : decode cX7_moved 31 = .ok (.bipush 40, 2) := by decide +kernel
theorem dX7_moved_33 : decode cX7_moved 33 = .ok (.if_icmp .gt 53, 3) := by decide +kernel
theorem dX7_moved_36 : decode cX7_moved 36 = .ok (.iload_n 1, 1) := by decide +kernel
theorem dX7_moved_37 : decode cX7_moved 37 = .ok (.ifCond .ge 49, 3) := by decide +kernel
theorem dX7_moved_40 : decode cX7_moved 40 = .ok (.aload_n 0, 1) := by decide +kernel
theorem dX7_moved_41 : decode cX7_moved 41 = .ok (.getfield 16, 3) := by decide +kernel
theorem dX7_moved_44 : decode cX7_moved 44 = .ok (.iload_n 2, 1) := by decide +kernel
theorem dX7_moved_45 : decode cX7_moved 45 = .ok (.iload 4, 2) := by decide +kernel
theorem dX7_moved_47 : decode cX7_moved 47 = .ok (.iastore, 1) := by decide +kernel
theorem dX7_moved_48 : decode cX7_moved 48 = .ok (.iload 4, 2) := by decide +kernel
theorem dX7_moved_50 : decode cX7_moved 50 = .ok (.iload_n 3, 1) := by decide +kernel
theorem dX7_moved_51 : decode cX7_moved 51 = .ok (.if_icmp .eq 26, 3) := by decide +kernel
theorem dX7_moved_54 : decode cX7_moved 54 = .ok (.aload_n 0, 1) := by decide +kernel
theorem dX7_moved_55 : decode cX7_moved 55 = .ok (.aload_n 0, 1) := by decide +kernel
theorem dX7_moved_56 : decode cX7_moved 56 = .ok (.getfield 40, 3) := by decide +kernel
theorem dX7_moved_59 : decode cX7_moved 59 = .ok (.iconst 0, 1) := by decide +kernel
theorem dX7_moved_60 : decode cX7_moved 60 = .ok (.iaload, 1) := by decide +kernel
theorem dX7_moved_61 : decode cX7_moved 61 = .ok (.invokevirtual 218, 3) := by decide +kernel
theorem dX7_moved_64 : decode cX7_moved 64 = .ok (.ifCond .eq 13, 3) := by decide +kernel
theorem dX7_moved_67 : decode cX7_moved 67 = .ok (.bipush 100, 2) := by decide +kernel
theorem dX7_moved_69 : decode cX7_moved 69 = .ok (.iload_n 2, 1) := by decide +kernel
theorem dX7_moved_70 : decode cX7_moved 70 = .ok (.imul, 1) := by decide +kernel
theorem dX7_moved_71 : decode cX7_moved 71 = .ok (.iload 4, 2) := by decide +kernel
theorem dX7_moved_73 : decode cX7_moved 73 = .ok (.iadd, 1) := by decide +kernel
theorem dX7_moved_74 : decode cX7_moved 74 = .ok (.goto 5, 3) := by decide +kernel
theorem dX7_moved_77 : decode cX7_moved 77 = .ok (.bipush (-4), 2) := by decide +kernel
theorem dX7_moved_79 : decode cX7_moved 79 = .ok (.istore_n 1, 1) := by decide +kernel
theorem dX7_moved_80 : decode cX7_moved 80 = .ok (.iinc 4 1, 3) := by decide +kernel
theorem dX7_moved_83 : decode cX7_moved 83 = .ok (.goto (-54), 3) := by decide +kernel
theorem dX7_moved_86 : decode cX7_moved 86 = .ok (.aload_n 0, 1) := by decide +kernel
theorem dX7_moved_87 : decode cX7_moved 87 = .ok (.getfield 16, 3) := by decide +kernel
theorem dX7_moved_90 : decode cX7_moved 90 = .ok (.iload_n 2, 1) := by decide +kernel
theorem dX7_moved_91 : decode cX7_moved 91 = .ok (.iload_n 3, 1) := by decide +kernel
theorem dX7_moved_92 : decode cX7_moved 92 = .ok (.iastore, 1) := by decide +kernel
theorem dX7_moved_93 : decode cX7_moved 93 = .ok (.iinc 2 1, 3) := by decide +kernel
theorem dX7_moved_96 : decode cX7_moved 96 = .ok (.goto (-91), 3) := by decide +kernel
theorem dX7_moved_99 : decode cX7_moved 99 = .ok (.iload_n 1, 1) := by decide +kernel
theorem dX7_moved_100 : decode cX7_moved 100 = .ok (.ireturn, 1) := by decide +kernel
set_option maxRecDepth 20000 in
theorem ggX7_evening_X7_in : GoodIn wsX7_evening wsX7_in := goodIn_r _ [13] (by decide +kernel) (by decide +kernel)
set_option maxRecDepth 20000 in
theorem gX7_evening_X7_in : GoodIn wsX7_evening (va_wsS RX7 82 yX7_in wsX7_in) := goodIn_app (goodIn_of _ (by decide +kernel)) ggX7_evening_X7_in
set_option maxRecDepth 20000 in
theorem ggX7_evening_X7_sayAll : GoodIn wsX7_evening wsX7_sayAll := goodIn_r _ [17, 4, 8, 18, 9, 19, 20, 21, 12, 22, 23, 24, 25, 26, 27, 28, 29, 30, 31, 32, 33, 34, 35, 36, 37, 38, 39, 40, 41, 42, 43, 44, 45, 46, 47, 48, 49, 50, 51, 52, 64, 65, 66, 67, 68, 69, 70, 71, 72, 73, 74, 75, 76, 77, 78, 79, 80, 81, 82, 83, 84, 85, 86, 87, 88, 89, 90, 91] (by decide +kernel) (by decide +kernel)
set_option maxRecDepth 20000 in
theorem gX7_evening_X7_sayAll : GoodIn wsX7_evening (wsV RX7 186 RX7 yX7_sayAll wsX7_sayAll) := goodIn_app (goodIn_of _ (by decide +kernel)) ggX7_evening_X7_sayAll
set_option maxRecDepth 20000 in
theorem ggX7_evening_X7_say1 : GoodIn wsX7_evening wsX7_say1 := goodIn_r _ [31, 32, 33, 34, 35, 36, 37, 12, 38, 39, 40, 41, 42, 23, 24, 25, 26, 27, 43, 44, 45, 46, 47, 48, 49, 50, 51, 52, 64, 65, 66, 67, 68, 69, 70, 71, 72, 73, 74, 75, 76, 77, 78, 79, 80, 81, 82, 83, 84, 85, 86, 87, 88, 89, 90, 91] (by decide +kernel) (by decide +kernel)
set_option maxRecDepth 20000 in
theorem gX7_evening_X7_say1 : GoodIn wsX7_evening (wsV RX7 176 RX7 yX7_say1 wsX7_say1) := goodIn_app (goodIn_of _ (by decide +kernel)) ggX7_evening_X7_say1
set_option maxRecDepth 20000 in
theorem ggX7_evening_X7_clearOf : GoodIn wsX7_evening wsX7_clearOf := goodIn_r _ [56, 4, 57, 58, 59, 12, 60, 8, 9, 32, 24, 18, 36, 37, 38, 64, 65, 66, 67, 68, 69, 70, 71, 72, 73, 74, 75, 76, 77, 78, 79, 80, 81, 82, 83, 84, 85, 86, 87, 88, 89, 90, 91] (by decide +kernel) (by decide +kernel)
set_option maxRecDepth 20000 in
theorem gX7_evening_X7_clearOf : GoodIn wsX7_evening (wsV RX7 191 RX7 yX7_clearOf wsX7_clearOf) := goodIn_app (goodIn_of _ (by decide +kernel)) ggX7_evening_X7_clearOf
set_option maxRecDepth 20000 in
theorem ggX7_evening_X7_bits : GoodIn wsX7_evening wsX7_bits := goodIn_r _ [63] (by decide +kernel) (by decide +kernel)
set_option maxRecDepth 20000 in
theorem gX7_evening_X7_bits : GoodIn wsX7_evening (va_wsS RX7 194 yX7_bits wsX7_bits) := goodIn_app (goodIn_of _ (by decide +kernel)) ggX7_evening_X7_bits
theorem dX7_evening_0 : decode cX7_evening 0 = .ok (.iload_n 1, 1) := by decide +kernel
theorem dX7_evening_1 : decode cX7_evening 1 = .ok (.i2l, 1) := by decide +kernel
theorem dX7_evening_2 : decode cX7_evening 2 = .ok (.lconst 0, 1) := by decide +kernel
theorem dX7_evening_3 : decode cX7_evening 3 = .ok (.ldc2_w 221, 3) := by decide +kernel
theorem dX7_evening_6 : decode cX7_evening 6 = .ok (.invokestatic 82, 3) := by decide +kernel
theorem dX7_evening_9 : decode cX7_evening 9 = .ok (.ifCond .ne 5, 3) := by decide +kernel
theorem dX7_evening_12 : decode cX7_evening 12 = .ok (.iconst (-1), 1) := by decide +kernel
theorem dX7_evening_13 : decode cX7_evening 13 = .ok (.ireturn, 1) := by decide +kernel
theorem dX7_evening_14 : decode cX7_evening 14 = .ok (.aload_n 0, 1) := by decide +kernel
theorem dX7_evening_15 : decode cX7_evening 15 = .ok (.aload_n 0, 1) := by decide +kernel
theorem dX7_evening_16 : decode cX7_evening 16 = .ok (.getfield 40, 3) := by decide +kernel
theorem dX7_evening_19 : decode cX7_evening 19 = .ok (.iconst 0, 1) := by decide +kernel
theorem dX7_evening_20 : decode cX7_evening 20 = .ok (.iaload, 1) := by decide +kernel
theorem dX7_evening_21 : decode cX7_evening 21 = .ok (.aload_n 0, 1) := by decide +kernel
theorem dX7_evening_22 : decode cX7_evening 22 = .ok (.getfield 43, 3) := by decide +kernel
theorem dX7_evening_25 : decode cX7_evening 25 = .ok (.iconst 0, 1) := by decide +kernel
theorem dX7_evening_26 : decode cX7_evening 26 = .ok (.iaload, 1) := by decide +kernel
theorem dX7_evening_27 : decode cX7_evening 27 = .ok (.iconst 0, 1) := by decide +kernel
theorem dX7_evening_28 : decode cX7_evening 28 = .ok (.invokevirtual 186, 3) := by decide +kernel
theorem dX7_evening_31 : decode cX7_evening 31 = .ok (.iconst 0, 1) := by decide +kernel
theorem dX7_evening_32 : decode cX7_evening 32 = .ok (.istore_n 2, 1) := by decide +kernel
theorem dX7_evening_33 : decode cX7_evening 33 = .ok (.iload_n 2, 1) := by decide +kernel
theorem dX7_evening_34 : decode cX7_evening 34 = .ok (.aload_n 0, 1) := by decide +kernel
theorem dX7_evening_35 : decode cX7_evening 35 = .ok (.getfield 28, 3) := by decide +kernel
theorem dX7_evening_38 : decode cX7_evening 38 = .ok (.iconst 0, 1) := by decide +kernel
theorem dX7_evening_39 : decode cX7_evening 39 = .ok (.iaload, 1) := by decide +kernel
theorem dX7_evening_40 : decode cX7_evening 40 = .ok (.if_icmp .ge 81, 3) := by decide +kernel
theorem dX7_evening_43 : decode cX7_evening 43 = .ok (.ldc2_w 223, 3) := by decide +kernel
theorem dX7_evening_46 : decode cX7_evening 46 = .ok (.iload_n 1, 1) := by decide +kernel
theorem dX7_evening_47 : decode cX7_evening 47 = .ok (.i2l, 1) := by decide +kernel
theorem dX7_evening_48 : decode cX7_evening 48 = .ok (.lmul, 1) := by decide +kernel
theorem dX7_evening_49 : decode cX7_evening 49 = .ok (.ldc2_w 225, 3) := by decide +kernel
theorem dX7_evening_52 : decode cX7_evening 52 = .ok (.iload_n 2, 1) := by decide +kernel
theorem dX7_evening_53 : decode cX7_evening 53 = .ok (.i2l, 1) := by decide +kernel
theorem dX7_evening_54 : decode cX7_evening 54 = .ok (.lmul, 1) := by decide +kernel
theorem dX7_evening_55 : decode cX7_evening 55 = .ok (.ladd, 1) := by decide +kernel
theorem dX7_evening_56 : decode cX7_evening 56 = .ok (.lconst 1, 1) := by decide +kernel
theorem dX7_evening_57 : decode cX7_evening 57 = .ok (.ladd, 1) := by decide +kernel
theorem dX7_evening_58 : decode cX7_evening 58 = .ok (.lstore_n 3, 1) := by decide +kernel
theorem dX7_evening_59 : decode cX7_evening 59 = .ok (.lload_n 3, 1) := by decide +kernel
theorem dX7_evening_60 : decode cX7_evening 60 = .ok (.lload_n 3, 1) := by decide +kernel
theorem dX7_evening_61 : decode cX7_evening 61 = .ok (.lmul, 1) := by decide +kernel
theorem dX7_evening_62 : decode cX7_evening 62 = .ok (.ldc2_w 227, 3) := by decide +kernel
theorem dX7_evening_65 : decode cX7_evening 65 = .ok (.lrem, 1) := by decide +kernel
theorem dX7_evening_66 : decode cX7_evening 66 = .ok (.l2i, 1) := by decide +kernel
theorem dX7_evening_67 : decode cX7_evening 67 = .ok (.istore 5, 2) := by decide +kernel
theorem dX7_evening_69 : decode cX7_evening 69 = .ok (.iload 5, 2) := by decide +kernel
theorem dX7_evening_71 : decode cX7_evening 71 = .ok (.iconst 3, 1) := by decide +kernel
theorem dX7_evening_72 : decode cX7_evening 72 = .ok (.irem, 1) := by decide +kernel
theorem dX7_evening_73 : decode cX7_evening 73 = .ok (.ifCond .ne 42, 3) := by decide +kernel
theorem dX7_evening_76 : decode cX7_evening 76 = .ok (.aload_n 0, 1) := by decide +kernel
theorem dX7_evening_77 : decode cX7_evening 77 = .ok (.iload 5, 2) := by decide +kernel
theorem dX7_evening_79 : decode cX7_evening 79 = .ok (.bipush 21, 2) := by decide +kernel
theorem dX7_evening_81 : decode cX7_evening 81 = .ok (.idiv, 1) := by decide +kernel
theorem dX7_evening_82 : decode cX7_evening 82 = .ok (.bipush 41, 2) := by decide +kernel
theorem dX7_evening_84 : decode cX7_evening 84 = .ok (.irem, 1) := by decide +kernel
theorem dX7_evening_85 : decode cX7_evening 85 = .ok (.aload_n 0, 1) := by decide +kernel
theorem dX7_evening_86 : decode cX7_evening 86 = .ok (.getfield 31, 3) := by decide +kernel
theorem dX7_evening_89 : decode cX7_evening 89 = .ok (.iload_n 2, 1) := by decide +kernel
theorem dX7_evening_90 : decode cX7_evening 90 = .ok (.iaload, 1) := by decide +kernel
theorem dX7_evening_91 : decode cX7_evening 91 = .ok (.iload 5, 2) := by decide +kernel
theorem dX7_evening_93 : decode cX7_evening 93 = .ok (.iconst 3, 1) := by decide +kernel
theorem dX7_evening_94 : decode cX7_evening 94 = .ok (.idiv, 1) := by decide +kernel
theorem dX7_evening_95 : decode cX7_evening 95 = .ok (.bipush 7, 2) := by decide +kernel
theorem dX7_evening_97 : decode cX7_evening 97 = .ok (.irem, 1) := by decide +kernel
theorem dX7_evening_98 : decode cX7_evening 98 = .ok (.iconst 1, 1) := by decide +kernel
theorem dX7_evening_99 : decode cX7_evening 99 = .ok (.iadd, 1) := by decide +kernel
theorem dX7_evening_100 : decode cX7_evening 100 = .ok (.aload_n 0, 1) := by decide +kernel
theorem dX7_evening_101 : decode cX7_evening 101 = .ok (.getfield 37, 3) := by decide +kernel
theorem dX7_evening_104 : decode cX7_evening 104 = .ok (.iload_n 2, 1) := by decide +kernel
theorem dX7_evening_105 : decode cX7_evening 105 = .ok (.iaload, 1) := by decide +kernel
theorem dX7_evening_106 : decode cX7_evening 106 = .ok (.aload_n 0, 1) := by decide +kernel
theorem dX7_evening_107 : decode cX7_evening 107 = .ok (.getfield 43, 3) := by decide +kernel
theorem dX7_evening_110 : decode cX7_evening 110 = .ok (.iconst 0, 1) := by decide +kernel
theorem dX7_evening_111 : decode cX7_evening 111 = .ok (.iaload, 1) := by decide +kernel
theorem dX7_evening_112 : decode cX7_evening 112 = .ok (.invokevirtual 176, 3) := by decide +kernel
theorem dX7_evening_115 : decode cX7_evening 115 = .ok (.iinc 2 1, 3) := by decide +kernel
theorem dX7_evening_118 : decode cX7_evening 118 = .ok (.goto (-85), 3) := by decide +kernel
theorem dX7_evening_121 : decode cX7_evening 121 = .ok (.aload_n 0, 1) := by decide +kernel
theorem dX7_evening_122 : decode cX7_evening 122 = .ok (.aload_n 0, 1) := by decide +kernel
theorem dX7_evening_123 : decode cX7_evening 123 = .ok (.getfield 40, 3) := by decide +kernel
theorem dX7_evening_126 : decode cX7_evening 126 = .ok (.iconst 0, 1) := by decide +kernel
theorem dX7_evening_127 : decode cX7_evening 127 = .ok (.iaload, 1) := by decide +kernel
theorem dX7_evening_128 : decode cX7_evening 128 = .ok (.aload_n 0, 1) := by decide +kernel
theorem dX7_evening_129 : decode cX7_evening 129 = .ok (.getfield 43, 3) := by decide +kernel
theorem dX7_evening_132 : decode cX7_evening 132 = .ok (.iconst 0, 1) := by decide +kernel
theorem dX7_evening_133 : decode cX7_evening 133 = .ok (.iaload, 1) := by decide +kernel
theorem dX7_evening_134 : decode cX7_evening 134 = .ok (.invokevirtual 191, 3) := by decide +kernel
theorem dX7_evening_137 : decode cX7_evening 137 = .ok (.invokestatic 194, 3) := by decide +kernel
theorem dX7_evening_140 : decode cX7_evening 140 = .ok (.ireturn, 1) := by decide +kernel
set_option maxRecDepth 20000 in
theorem ggX7_keep_X7_copy : GoodIn wsX7_keep wsX7_copy := goodIn_r _ [6, 7, 8, 9, 10, 11, 12, 13, 14, 15, 16, 17, 18, 19, 20, 21, 22, 23, 24, 25, 26, 27, 28, 29, 30, 31, 32, 33, 34, 35, 36, 37, 38, 39, 40, 41] (by decide +kernel) (by decide +kernel)
set_option maxRecDepth 20000 in
theorem gX7_keep_X7_copy : GoodIn wsX7_keep (wsV RX7 138 RX7 yX7_copy wsX7_copy) := goodIn_app (goodIn_of _ (by decide +kernel)) ggX7_keep_X7_copy
theorem dX7_keep_0 : decode cX7_keep 0 = .ok (.aload_n 0, 1) := by decide +kernel
theorem dX7_keep_1 : decode cX7_keep 1 = .ok (.getfield 142, 3) := by decide +kernel
theorem dX7_keep_4 : decode cX7_keep 4 = .ok (.iconst 2, 1) := by decide +kernel
theorem dX7_keep_5 : decode cX7_keep 5 = .ok (.if_icmp .ne 6, 3) := by decide +kernel
theorem dX7_keep_8 : decode cX7_keep 8 = .ok (.bipush (-3), 2) := by decide +kernel
theorem dX7_keep_10 : decode cX7_keep 10 = .ok (.ireturn, 1) := by decide +kernel
theorem dX7_keep_11 : decode cX7_keep 11 = .ok (.aload_n 0, 1) := by decide +kernel
theorem dX7_keep_12 : decode cX7_keep 12 = .ok (.dup, 1) := by decide +kernel
theorem dX7_keep_13 : decode cX7_keep 13 = .ok (.getfield 142, 3) := by decide +kernel
theorem dX7_keep_16 : decode cX7_keep 16 = .ok (.iconst 1, 1) := by decide +kernel
theorem dX7_keep_17 : decode cX7_keep 17 = .ok (.iadd, 1) := by decide +kernel
theorem dX7_keep_18 : decode cX7_keep 18 = .ok (.putfield 142, 3) := by decide +kernel
theorem dX7_keep_21 : decode cX7_keep 21 = .ok (.aload_n 0, 1) := by decide +kernel
theorem dX7_keep_22 : decode cX7_keep 22 = .ok (.iconst 0, 1) := by decide +kernel
theorem dX7_keep_23 : decode cX7_keep 23 = .ok (.iconst 1, 1) := by decide +kernel
theorem dX7_keep_24 : decode cX7_keep 24 = .ok (.aload_n 0, 1) := by decide +kernel
theorem dX7_keep_25 : decode cX7_keep 25 = .ok (.getfield 142, 3) := by decide +kernel
theorem dX7_keep_28 : decode cX7_keep 28 = .ok (.iadd, 1) := by decide +kernel
theorem dX7_keep_29 : decode cX7_keep 29 = .ok (.invokevirtual 138, 3) := by decide +kernel
theorem dX7_keep_32 : decode cX7_keep 32 = .ok (.aload_n 0, 1) := by decide +kernel
theorem dX7_keep_33 : decode cX7_keep 33 = .ok (.getfield 142, 3) := by decide +kernel
theorem dX7_keep_36 : decode cX7_keep 36 = .ok (.ireturn, 1) := by decide +kernel
set_option maxRecDepth 20000 in
theorem ggX7_back_X7_copy : GoodIn wsX7_back wsX7_copy := goodIn_r _ [7, 8, 9, 10, 11, 12, 13, 14, 15, 16, 17, 18, 19, 20, 21, 22, 23, 24, 25, 26, 27, 28, 29, 30, 31, 32, 33, 34, 35, 36, 37, 38, 39, 40, 41, 42] (by decide +kernel) (by decide +kernel)
set_option maxRecDepth 20000 in
theorem gX7_back_X7_copy : GoodIn wsX7_back (wsV RX7 138 RX7 yX7_copy wsX7_copy) := goodIn_app (goodIn_of _ (by decide +kernel)) ggX7_back_X7_copy
theorem dX7_back_0 : decode cX7_back 0 = .ok (.aload_n 0, 1) := by decide +kernel
theorem dX7_back_1 : decode cX7_back 1 = .ok (.getfield 142, 3) := by decide +kernel
theorem dX7_back_4 : decode cX7_back 4 = .ok (.ifCond .ne 6, 3) := by decide +kernel
theorem dX7_back_7 : decode cX7_back 7 = .ok (.bipush (-2), 2) := by decide +kernel
theorem dX7_back_9 : decode cX7_back 9 = .ok (.ireturn, 1) := by decide +kernel
theorem dX7_back_10 : decode cX7_back 10 = .ok (.aload_n 0, 1) := by decide +kernel
theorem dX7_back_11 : decode cX7_back 11 = .ok (.iconst 1, 1) := by decide +kernel
theorem dX7_back_12 : decode cX7_back 12 = .ok (.aload_n 0, 1) := by decide +kernel
theorem dX7_back_13 : decode cX7_back 13 = .ok (.getfield 142, 3) := by decide +kernel
theorem dX7_back_16 : decode cX7_back 16 = .ok (.iadd, 1) := by decide +kernel
theorem dX7_back_17 : decode cX7_back 17 = .ok (.iconst 0, 1) := by decide +kernel
theorem dX7_back_18 : decode cX7_back 18 = .ok (.invokevirtual 138, 3) := by decide +kernel
theorem dX7_back_21 : decode cX7_back 21 = .ok (.aload_n 0, 1) := by decide +kernel
theorem dX7_back_22 : decode cX7_back 22 = .ok (.dup, 1) := by decide +kernel
theorem dX7_back_23 : decode cX7_back 23 = .ok (.getfield 142, 3) := by decide +kernel
theorem dX7_back_26 : decode cX7_back 26 = .ok (.iconst 1, 1) := by decide +kernel
theorem dX7_back_27 : decode cX7_back 27 = .ok (.isub, 1) := by decide +kernel
theorem dX7_back_28 : decode cX7_back 28 = .ok (.putfield 142, 3) := by decide +kernel
theorem dX7_back_31 : decode cX7_back 31 = .ok (.aload_n 0, 1) := by decide +kernel
theorem dX7_back_32 : decode cX7_back 32 = .ok (.iconst 0, 1) := by decide +kernel
theorem dX7_back_33 : decode cX7_back 33 = .ok (.putfield 145, 3) := by decide +kernel
theorem dX7_back_36 : decode cX7_back 36 = .ok (.aload_n 0, 1) := by decide +kernel
theorem dX7_back_37 : decode cX7_back 37 = .ok (.getfield 142, 3) := by decide +kernel
theorem dX7_back_40 : decode cX7_back 40 = .ok (.ireturn, 1) := by decide +kernel
theorem dX7_count_0 : decode cX7_count 0 = .ok (.iload_n 1, 1) := by decide +kernel
theorem dX7_count_1 : decode cX7_count 1 = .ok (.tableswitch 115 0 9 #[55, 62, 69, 76, 83, 90, 95, 100, 105, 110], 55) := by decide +kernel
theorem dX7_count_56 : decode cX7_count 56 = .ok (.aload_n 0, 1) := by decide +kernel
theorem dX7_count_57 : decode cX7_count 57 = .ok (.getfield 13, 3) := by decide +kernel
theorem dX7_count_60 : decode cX7_count 60 = .ok (.iconst 0, 1) := by decide +kernel
theorem dX7_count_61 : decode cX7_count 61 = .ok (.iaload, 1) := by decide +kernel
theorem dX7_count_62 : decode cX7_count 62 = .ok (.ireturn, 1) := by decide +kernel
theorem dX7_count_63 : decode cX7_count 63 = .ok (.aload_n 0, 1) := by decide +kernel
theorem dX7_count_64 : decode cX7_count 64 = .ok (.getfield 28, 3) := by decide +kernel
theorem dX7_count_67 : decode cX7_count 67 = .ok (.iconst 0, 1) := by decide +kernel
theorem dX7_count_68 : decode cX7_count 68 = .ok (.iaload, 1) := by decide +kernel
theorem dX7_count_69 : decode cX7_count 69 = .ok (.ireturn, 1) := by decide +kernel
theorem dX7_count_70 : decode cX7_count 70 = .ok (.aload_n 0, 1) := by decide +kernel
theorem dX7_count_71 : decode cX7_count 71 = .ok (.getfield 40, 3) := by decide +kernel
theorem dX7_count_74 : decode cX7_count 74 = .ok (.iconst 0, 1) := by decide +kernel
theorem dX7_count_75 : decode cX7_count 75 = .ok (.iaload, 1) := by decide +kernel
theorem dX7_count_76 : decode cX7_count 76 = .ok (.ireturn, 1) := by decide +kernel
theorem dX7_count_77 : decode cX7_count 77 = .ok (.aload_n 0, 1) := by decide +kernel
theorem dX7_count_78 : decode cX7_count 78 = .ok (.getfield 43, 3) := by decide +kernel
theorem dX7_count_81 : decode cX7_count 81 = .ok (.iconst 0, 1) := by decide +kernel
theorem dX7_count_82 : decode cX7_count 82 = .ok (.iaload, 1) := by decide +kernel
theorem dX7_count_83 : decode cX7_count 83 = .ok (.ireturn, 1) := by decide +kernel
theorem dX7_count_84 : decode cX7_count 84 = .ok (.aload_n 0, 1) := by decide +kernel
theorem dX7_count_85 : decode cX7_count 85 = .ok (.getfield 25, 3) := by decide +kernel
theorem dX7_count_88 : decode cX7_count 88 = .ok (.iconst 0, 1) := by decide +kernel
theorem dX7_count_89 : decode cX7_count 89 = .ok (.iaload, 1) := by decide +kernel
theorem dX7_count_90 : decode cX7_count 90 = .ok (.ireturn, 1) := by decide +kernel
theorem dX7_count_91 : decode cX7_count 91 = .ok (.aload_n 0, 1) := by decide +kernel
theorem dX7_count_92 : decode cX7_count 92 = .ok (.getfield 148, 3) := by decide +kernel
theorem dX7_count_95 : decode cX7_count 95 = .ok (.ireturn, 1) := by decide +kernel
theorem dX7_count_96 : decode cX7_count 96 = .ok (.aload_n 0, 1) := by decide +kernel
theorem dX7_count_97 : decode cX7_count 97 = .ok (.getfield 151, 3) := by decide +kernel
theorem dX7_count_100 : decode cX7_count 100 = .ok (.ireturn, 1) := by decide +kernel
theorem dX7_count_101 : decode cX7_count 101 = .ok (.aload_n 0, 1) := by decide +kernel
theorem dX7_count_102 : decode cX7_count 102 = .ok (.getfield 145, 3) := by decide +kernel
theorem dX7_count_105 : decode cX7_count 105 = .ok (.ireturn, 1) := by decide +kernel
theorem dX7_count_106 : decode cX7_count 106 = .ok (.aload_n 0, 1) := by decide +kernel
theorem dX7_count_107 : decode cX7_count 107 = .ok (.getfield 142, 3) := by decide +kernel
theorem dX7_count_110 : decode cX7_count 110 = .ok (.ireturn, 1) := by decide +kernel
theorem dX7_count_111 : decode cX7_count 111 = .ok (.aload_n 0, 1) := by decide +kernel
theorem dX7_count_112 : decode cX7_count 112 = .ok (.getfield 86, 3) := by decide +kernel
theorem dX7_count_115 : decode cX7_count 115 = .ok (.ireturn, 1) := by decide +kernel
theorem dX7_count_116 : decode cX7_count 116 = .ok (.iconst (-1), 1) := by decide +kernel
theorem dX7_count_117 : decode cX7_count 117 = .ok (.ireturn, 1) := by decide +kernel
theorem dJ6_bitCount_0f7a4_0 : decode cJ6_bitCount_0f7a4 0 = .ok (.iload_n 0, 1) := by decide +kernel
theorem dJ6_bitCount_0f7a4_1 : decode cJ6_bitCount_0f7a4 1 = .ok (.iload_n 0, 1) := by decide +kernel
theorem dJ6_bitCount_0f7a4_2 : decode cJ6_bitCount_0f7a4 2 = .ok (.iconst 1, 1) := by decide +kernel
theorem dJ6_bitCount_0f7a4_3 : decode cJ6_bitCount_0f7a4 3 = .ok (.iushr, 1) := by decide +kernel
theorem dJ6_bitCount_0f7a4_4 : decode cJ6_bitCount_0f7a4 4 = .ok (.ldc_w 265, 3) := by decide +kernel
theorem dJ6_bitCount_0f7a4_7 : decode cJ6_bitCount_0f7a4 7 = .ok (.iand, 1) := by decide +kernel
theorem dJ6_bitCount_0f7a4_8 : decode cJ6_bitCount_0f7a4 8 = .ok (.isub, 1) := by decide +kernel
theorem dJ6_bitCount_0f7a4_9 : decode cJ6_bitCount_0f7a4 9 = .ok (.istore_n 0, 1) := by decide +kernel
theorem dJ6_bitCount_0f7a4_10 : decode cJ6_bitCount_0f7a4 10 = .ok (.iload_n 0, 1) := by decide +kernel
theorem dJ6_bitCount_0f7a4_11 : decode cJ6_bitCount_0f7a4 11 = .ok (.ldc_w 266, 3) := by decide +kernel
theorem dJ6_bitCount_0f7a4_14 : decode cJ6_bitCount_0f7a4 14 = .ok (.iand, 1) := by decide +kernel
theorem dJ6_bitCount_0f7a4_15 : decode cJ6_bitCount_0f7a4 15 = .ok (.iload_n 0, 1) := by decide +kernel
theorem dJ6_bitCount_0f7a4_16 : decode cJ6_bitCount_0f7a4 16 = .ok (.iconst 2, 1) := by decide +kernel
theorem dJ6_bitCount_0f7a4_17 : decode cJ6_bitCount_0f7a4 17 = .ok (.iushr, 1) := by decide +kernel
theorem dJ6_bitCount_0f7a4_18 : decode cJ6_bitCount_0f7a4 18 = .ok (.ldc_w 266, 3) := by decide +kernel
theorem dJ6_bitCount_0f7a4_21 : decode cJ6_bitCount_0f7a4 21 = .ok (.iand, 1) := by decide +kernel
theorem dJ6_bitCount_0f7a4_22 : decode cJ6_bitCount_0f7a4 22 = .ok (.iadd, 1) := by decide +kernel
theorem dJ6_bitCount_0f7a4_23 : decode cJ6_bitCount_0f7a4 23 = .ok (.istore_n 0, 1) := by decide +kernel
theorem dJ6_bitCount_0f7a4_24 : decode cJ6_bitCount_0f7a4 24 = .ok (.iload_n 0, 1) := by decide +kernel
theorem dJ6_bitCount_0f7a4_25 : decode cJ6_bitCount_0f7a4 25 = .ok (.iload_n 0, 1) := by decide +kernel
theorem dJ6_bitCount_0f7a4_26 : decode cJ6_bitCount_0f7a4 26 = .ok (.iconst 4, 1) := by decide +kernel
theorem dJ6_bitCount_0f7a4_27 : decode cJ6_bitCount_0f7a4 27 = .ok (.iushr, 1) := by decide +kernel
theorem dJ6_bitCount_0f7a4_28 : decode cJ6_bitCount_0f7a4 28 = .ok (.iadd, 1) := by decide +kernel
theorem dJ6_bitCount_0f7a4_29 : decode cJ6_bitCount_0f7a4 29 = .ok (.ldc_w 267, 3) := by decide +kernel
theorem dJ6_bitCount_0f7a4_32 : decode cJ6_bitCount_0f7a4 32 = .ok (.iand, 1) := by decide +kernel
theorem dJ6_bitCount_0f7a4_33 : decode cJ6_bitCount_0f7a4 33 = .ok (.istore_n 0, 1) := by decide +kernel
theorem dJ6_bitCount_0f7a4_34 : decode cJ6_bitCount_0f7a4 34 = .ok (.iload_n 0, 1) := by decide +kernel
theorem dJ6_bitCount_0f7a4_35 : decode cJ6_bitCount_0f7a4 35 = .ok (.iload_n 0, 1) := by decide +kernel
theorem dJ6_bitCount_0f7a4_36 : decode cJ6_bitCount_0f7a4 36 = .ok (.bipush 8, 2) := by decide +kernel
theorem dJ6_bitCount_0f7a4_38 : decode cJ6_bitCount_0f7a4 38 = .ok (.iushr, 1) := by decide +kernel
theorem dJ6_bitCount_0f7a4_39 : decode cJ6_bitCount_0f7a4 39 = .ok (.iadd, 1) := by decide +kernel
theorem dJ6_bitCount_0f7a4_40 : decode cJ6_bitCount_0f7a4 40 = .ok (.istore_n 0, 1) := by decide +kernel
theorem dJ6_bitCount_0f7a4_41 : decode cJ6_bitCount_0f7a4 41 = .ok (.iload_n 0, 1) := by decide +kernel
theorem dJ6_bitCount_0f7a4_42 : decode cJ6_bitCount_0f7a4 42 = .ok (.iload_n 0, 1) := by decide +kernel
theorem dJ6_bitCount_0f7a4_43 : decode cJ6_bitCount_0f7a4 43 = .ok (.bipush 16, 2) := by decide +kernel
theorem dJ6_bitCount_0f7a4_45 : decode cJ6_bitCount_0f7a4 45 = .ok (.iushr, 1) := by decide +kernel
theorem dJ6_bitCount_0f7a4_46 : decode cJ6_bitCount_0f7a4 46 = .ok (.iadd, 1) := by decide +kernel
theorem dJ6_bitCount_0f7a4_47 : decode cJ6_bitCount_0f7a4 47 = .ok (.istore_n 0, 1) := by decide +kernel
theorem dJ6_bitCount_0f7a4_48 : decode cJ6_bitCount_0f7a4 48 = .ok (.iload_n 0, 1) := by decide +kernel
theorem dJ6_bitCount_0f7a4_49 : decode cJ6_bitCount_0f7a4 49 = .ok (.bipush 63, 2) := by decide +kernel
theorem dJ6_bitCount_0f7a4_51 : decode cJ6_bitCount_0f7a4 51 = .ok (.iand, 1) := by decide +kernel
theorem dJ6_bitCount_0f7a4_52 : decode cJ6_bitCount_0f7a4 52 = .ok (.ireturn, 1) := by decide +kernel
theorem dJ9_abs_0f7a4_0 : decode cJ9_abs_0f7a4 0 = .ok (.iload_n 0, 1) := by decide +kernel
theorem dJ9_abs_0f7a4_1 : decode cJ9_abs_0f7a4 1 = .ok (.ifCond .ge 8, 3) := by decide +kernel
theorem dJ9_abs_0f7a4_4 : decode cJ9_abs_0f7a4 4 = .ok (.iload_n 0, 1) := by decide +kernel
theorem dJ9_abs_0f7a4_5 : decode cJ9_abs_0f7a4 5 = .ok (.ineg, 1) := by decide +kernel
theorem dJ9_abs_0f7a4_6 : decode cJ9_abs_0f7a4 6 = .ok (.goto 4, 3) := by decide +kernel
theorem dJ9_abs_0f7a4_9 : decode cJ9_abs_0f7a4 9 = .ok (.iload_n 0, 1) := by decide +kernel
theorem dJ9_abs_0f7a4_10 : decode cJ9_abs_0f7a4 10 = .ok (.ireturn, 1) := by decide +kernel
theorem dJ9_max_7cf53_0 : decode cJ9_max_7cf53 0 = .ok (.iload_n 0, 1) := by decide +kernel
theorem dJ9_max_7cf53_1 : decode cJ9_max_7cf53 1 = .ok (.iload_n 1, 1) := by decide +kernel
theorem dJ9_max_7cf53_2 : decode cJ9_max_7cf53 2 = .ok (.if_icmp .lt 7, 3) := by decide +kernel
theorem dJ9_max_7cf53_5 : decode cJ9_max_7cf53 5 = .ok (.iload_n 0, 1) := by decide +kernel
theorem dJ9_max_7cf53_6 : decode cJ9_max_7cf53 6 = .ok (.goto 4, 3) := by decide +kernel
theorem dJ9_max_7cf53_9 : decode cJ9_max_7cf53 9 = .ok (.iload_n 1, 1) := by decide +kernel
theorem dJ9_max_7cf53_10 : decode cJ9_max_7cf53 10 = .ok (.ireturn, 1) := by decide +kernel
theorem dJ7_fill_53178_0 : decode cJ7_fill_53178 0 = .ok (.iconst 0, 1) := by decide +kernel
theorem dJ7_fill_53178_1 : decode cJ7_fill_53178 1 = .ok (.istore_n 2, 1) := by decide +kernel
theorem dJ7_fill_53178_2 : decode cJ7_fill_53178 2 = .ok (.aload_n 0, 1) := by decide +kernel
theorem dJ7_fill_53178_3 : decode cJ7_fill_53178 3 = .ok (.arraylength, 1) := by decide +kernel
theorem dJ7_fill_53178_4 : decode cJ7_fill_53178 4 = .ok (.istore_n 3, 1) := by decide +kernel
theorem dJ7_fill_53178_5 : decode cJ7_fill_53178 5 = .ok (.iload_n 2, 1) := by decide +kernel
theorem dJ7_fill_53178_6 : decode cJ7_fill_53178 6 = .ok (.iload_n 3, 1) := by decide +kernel
theorem dJ7_fill_53178_7 : decode cJ7_fill_53178 7 = .ok (.if_icmp .ge 13, 3) := by decide +kernel
theorem dJ7_fill_53178_10 : decode cJ7_fill_53178 10 = .ok (.aload_n 0, 1) := by decide +kernel
theorem dJ7_fill_53178_11 : decode cJ7_fill_53178 11 = .ok (.iload_n 2, 1) := by decide +kernel
theorem dJ7_fill_53178_12 : decode cJ7_fill_53178 12 = .ok (.iload_n 1, 1) := by decide +kernel
theorem dJ7_fill_53178_13 : decode cJ7_fill_53178 13 = .ok (.iastore, 1) := by decide +kernel
theorem dJ7_fill_53178_14 : decode cJ7_fill_53178 14 = .ok (.iinc 2 1, 3) := by decide +kernel
theorem dJ7_fill_53178_17 : decode cJ7_fill_53178 17 = .ok (.goto (-12), 3) := by decide +kernel
theorem dJ7_fill_53178_20 : decode cJ7_fill_53178 20 = .ok (.return_, 1) := by decide +kernel
set_option maxRecDepth 20000 in
theorem ggL_law_X6_init : GoodIn wsL_law wsX6_init := goodIn_r _ [9, 10, 11, 12, 13, 14, 15, 16, 17, 18, 19, 20, 21, 22, 23, 24, 25, 26, 27, 28, 29, 30, 31, 32, 33, 34, 35, 36, 37, 38, 39, 40, 41, 42, 43, 44, 45, 46, 47, 48, 49, 50, 51, 52, 53, 54, 55, 56, 57, 58, 59, 60, 61, 62, 63, 64, 65, 66, 67, 68, 69, 70, 71, 72, 73, 74, 75, 76, 77, 78, 79, 80, 81, 82, 83, 84, 85, 86, 87, 88, 89, 90, 91, 92, 93, 94, 95, 96, 97, 98, 99, 100, 101, 102, 103, 104, 105, 2, 106, 107, 108, 109, 110, 111, 112, 113, 114, 115, 116, 117, 118, 119, 120, 121, 122, 123, 124, 125, 126, 873, 874, 835, 836, 837, 838, 839, 840, 841, 842, 843, 844, 875, 876, 877, 878, 879, 880, 881, 882, 883, 884, 885, 886, 887, 888] (by decide +kernel) (by decide +kernel)
set_option maxRecDepth 20000 in
theorem gL_law_X6_init : GoodIn wsL_law (wsX6_init) := ggL_law_X6_init
set_option maxRecDepth 20000 in
theorem ggL_law_X7_init : GoodIn wsL_law wsX7_init := goodIn_r _ [129, 130, 11, 12, 55, 131, 132, 133, 134, 135, 136, 137, 138, 139, 140, 141, 142, 143, 144, 145, 146, 147, 148, 149, 150, 151, 152, 153, 154, 155, 5, 156, 845, 846, 847, 848, 849, 850, 851, 852, 853, 854, 855, 856, 857, 858, 859, 860, 861, 862, 863, 864, 865, 866, 867, 868, 869, 870, 871, 872] (by decide +kernel) (by decide +kernel)
set_option maxRecDepth 20000 in
theorem gL_law_X7_init : GoodIn wsL_law (wsX7_init) := ggL_law_X7_init
set_option maxRecDepth 20000 in
theorem ggL_law_X6_write : GoodIn wsL_law wsX6_write := goodIn_r _ [160, 16, 110, 111, 2, 112, 161, 162, 163, 15, 164, 45, 165, 166, 167, 168, 38, 169, 77, 170, 118, 119, 120, 56, 171, 172, 173, 174, 835, 836, 837, 838, 839, 840, 841, 842, 843, 844, 873, 874, 887, 888] (by decide +kernel) (by decide +kernel)
set_option maxRecDepth 20000 in
theorem gL_law_X6_write : GoodIn wsL_law (wsV RL 15 RX6 yX6_write wsX6_write) := goodIn_app (goodIn_of _ (by decide +kernel)) ggL_law_X6_write
set_option maxRecDepth 20000 in
theorem ggL_law_X7_write : GoodIn wsL_law wsX7_write := goodIn_r _ [178, 179, 180, 131, 181, 182, 183, 5, 184, 845, 846, 847, 848, 849, 850, 851, 852, 853, 854, 855, 856, 857, 858, 859, 860, 861, 862, 863, 864, 865, 866, 867, 868, 869, 870, 871, 872] (by decide +kernel) (by decide +kernel)
set_option maxRecDepth 20000 in
theorem gL_law_X7_write : GoodIn wsL_law (wsV RL 19 RX7 yX7_write wsX7_write) := goodIn_app (goodIn_of _ (by decide +kernel)) ggL_law_X7_write
set_option maxRecDepth 20000 in
theorem ggL_law_X6_wipe : GoodIn wsL_law wsX6_wipe := goodIn_r _ [188, 16, 171, 172, 173, 15, 174, 45, 166, 167, 168, 38, 169, 77, 189, 190, 191, 192, 193, 74, 75, 76, 835, 836, 837, 838, 839, 840, 841, 842, 843, 844, 873, 874, 887, 888] (by decide +kernel) (by decide +kernel)
set_option maxRecDepth 20000 in
theorem gL_law_X6_wipe : GoodIn wsL_law (wsV RL 20 RX6 yX6_wipe wsX6_wipe) := goodIn_app (goodIn_of _ (by decide +kernel)) ggL_law_X6_wipe
set_option maxRecDepth 20000 in
theorem ggL_law_X7_wipe : GoodIn wsL_law wsX7_wipe := goodIn_r _ [197, 180, 845, 846, 847, 848, 849, 850, 851, 852, 853, 854, 855, 856, 857, 858, 859, 860, 861, 862, 863, 864, 865, 866, 867, 868, 869, 870, 871, 872] (by decide +kernel) (by decide +kernel)
set_option maxRecDepth 20000 in
theorem gL_law_X7_wipe : GoodIn wsL_law (wsV RL 24 RX7 yX7_wipe wsX7_wipe) := goodIn_app (goodIn_of _ (by decide +kernel)) ggL_law_X7_wipe
set_option maxRecDepth 20000 in
theorem ggL_law_X6_fault : GoodIn wsL_law wsX6_fault := goodIn_r _ [201, 16, 21, 202, 203, 204, 15, 205, 45, 206, 66, 67, 19, 68, 62, 63, 69, 70, 71, 72, 73, 74, 75, 38, 76, 77, 166, 167, 168, 169, 207, 208, 209, 210, 46, 211, 212, 213, 214, 56, 193, 215, 216, 217, 218, 219, 220, 221, 222, 111, 2, 112, 223, 224, 225, 226, 170, 118, 119, 120, 227, 228, 229, 230, 231, 102, 103, 104, 105, 106, 107, 108, 109, 110, 113, 114, 115, 116, 117, 232, 122, 123, 124, 125, 126, 233, 234, 235, 236, 237, 238, 239, 240, 241, 242, 243, 244, 835, 836, 837, 838, 839, 840, 841, 842, 843, 844, 873, 874, 875, 876, 877, 878, 879, 880, 887, 888] (by decide +kernel) (by decide +kernel)
set_option maxRecDepth 20000 in
theorem gL_law_X6_fault : GoodIn wsL_law (wsV RL 25 RX6 yX6_fault wsX6_fault) := goodIn_app (goodIn_of _ (by decide +kernel)) ggL_law_X6_fault
set_option maxRecDepth 20000 in
theorem ggL_law_X7_fault : GoodIn wsL_law wsX7_fault := goodIn_r _ [248, 249, 250, 251, 5, 252, 253, 180, 153, 154, 155, 156, 132, 136, 137, 141, 142, 143, 254, 255, 256, 257, 149, 133, 134, 135, 258, 259, 260, 261, 262, 131, 263, 264, 265, 266, 267, 268, 269, 182, 183, 184, 270, 271, 272, 273, 274, 275, 276, 277, 278, 279, 280, 281, 282, 283, 138, 139, 140, 845, 846, 847, 848, 849, 850, 851, 852, 853, 854, 855, 856, 857, 858, 859, 860, 861, 862, 863, 864, 865, 866, 867, 868, 869, 870, 871, 872] (by decide +kernel) (by decide +kernel)
set_option maxRecDepth 20000 in
theorem gL_law_X7_fault : GoodIn wsL_law (wsV RL 28 RX7 yX7_fault wsX7_fault) := goodIn_app (goodIn_of _ (by decide +kernel)) ggL_law_X7_fault
set_option maxRecDepth 20000 in
theorem ggL_law_X6_lay : GoodIn wsL_law wsX6_lay := goodIn_r _ [287, 16, 21, 20, 39, 40, 34, 35, 202, 203, 204, 15, 205, 45, 206, 66, 67, 19, 68, 62, 63, 69, 70, 71, 72, 73, 74, 75, 38, 76, 77, 166, 167, 168, 169, 207, 208, 209, 210, 46, 211, 212, 213, 214, 56, 193, 215, 216, 217, 218, 219, 220, 221, 222, 111, 2, 112, 223, 224, 225, 226, 170, 118, 119, 120, 227, 228, 229, 230, 231, 102, 103, 104, 105, 106, 107, 108, 109, 110, 113, 114, 115, 116, 117, 232, 122, 123, 124, 125, 126, 233, 234, 235, 236, 237, 238, 239, 240, 241, 242, 243, 244, 288, 289, 290, 291, 292, 293, 294, 295, 296, 297, 298, 299, 300, 301, 302, 303, 304, 305, 306, 33, 307, 308, 835, 836, 837, 838, 839, 840, 841, 842, 843, 844, 873, 874, 875, 876, 877, 878, 879, 880, 887, 888, 885, 886] (by decide +kernel) (by decide +kernel)
set_option maxRecDepth 20000 in
theorem gL_law_X6_lay : GoodIn wsL_law (wsV RL 29 RX6 yX6_lay wsX6_lay) := goodIn_app (goodIn_of _ (by decide +kernel)) ggL_law_X6_lay
set_option maxRecDepth 20000 in
theorem ggL_law_X7_lay : GoodIn wsL_law wsX7_lay := goodIn_r _ [312, 137, 132, 136, 133, 134, 135, 313, 314, 315, 316, 249, 250, 251, 5, 252, 253, 180, 153, 154, 155, 156, 141, 142, 143, 254, 255, 256, 257, 149, 258, 259, 260, 261, 262, 131, 263, 264, 265, 266, 267, 268, 269, 182, 183, 184, 270, 271, 272, 273, 274, 275, 276, 277, 278, 279, 280, 281, 282, 283, 138, 139, 140, 317, 318, 319, 320, 845, 846, 847, 848, 849, 850, 851, 852, 853, 854, 855, 856, 857, 858, 859, 860, 861, 862, 863, 864, 865, 866, 867, 868, 869, 870, 871, 872] (by decide +kernel) (by decide +kernel)
set_option maxRecDepth 20000 in
theorem gL_law_X7_lay : GoodIn wsL_law (wsV RL 32 RX7 yX7_lay wsX7_lay) := goodIn_app (goodIn_of _ (by decide +kernel)) ggL_law_X7_lay
set_option maxRecDepth 20000 in
theorem ggL_law_X6_face : GoodIn wsL_law wsX6_face := goodIn_r _ [324, 20, 325, 326, 327, 19, 328, 62, 292, 167, 168, 38, 169, 77, 110, 111, 2, 112, 329, 330, 331, 332, 72, 333, 334, 335, 336, 337, 212, 213, 214, 56, 835, 836, 837, 838, 839, 840, 841, 842, 843, 844, 875, 876, 877, 878, 879, 880, 887, 888] (by decide +kernel) (by decide +kernel)
set_option maxRecDepth 20000 in
theorem gL_law_X6_face : GoodIn wsL_law (wsV RL 33 RX6 yX6_face wsX6_face) := goodIn_app (goodIn_of _ (by decide +kernel)) ggL_law_X6_face
set_option maxRecDepth 20000 in
theorem ggL_law_X7_face : GoodIn wsL_law wsX7_face := goodIn_r _ [341, 132, 342, 133, 134, 135, 143, 182, 183, 5, 184, 845, 846, 847, 848, 849, 850, 851, 852, 853, 854, 855, 856, 857, 858, 859, 860, 861, 862, 863, 864, 865, 866, 867, 868, 869, 870, 871, 872] (by decide +kernel) (by decide +kernel)
set_option maxRecDepth 20000 in
theorem gL_law_X7_face : GoodIn wsL_law (wsV RL 37 RX7 yX7_face wsX7_face) := goodIn_app (goodIn_of _ (by decide +kernel)) ggL_law_X7_face
set_option maxRecDepth 20000 in
theorem ggL_law_X6_word : GoodIn wsL_law wsX6_word := goodIn_r _ [346, 20, 288, 289, 290, 19, 291, 63, 292, 167, 168, 38, 169, 77, 110, 111, 2, 112, 347, 348, 349, 350, 351, 352, 353, 354, 355, 30, 25, 356, 357, 358, 359, 360, 361, 362, 24, 363, 82, 83, 364, 365, 53, 366, 367, 74, 75, 76, 368, 369, 370, 371, 372, 118, 119, 120, 56, 373, 326, 327, 328, 62, 374, 330, 331, 332, 72, 375, 376, 377, 378, 379, 334, 335, 336, 337, 212, 213, 214, 380, 381, 382, 29, 383, 89, 90, 384, 385, 386, 387, 388, 389, 390, 391, 392, 393, 394, 395, 396, 397, 398, 399, 400, 401, 402, 403, 404, 405, 406, 407, 408, 409, 410, 411, 412, 413, 414, 415, 416, 417, 418, 419, 420, 421, 422, 423, 424, 425, 426, 427, 428, 429, 430, 431, 432, 433, 434, 435, 436, 835, 836, 837, 838, 839, 840, 841, 842, 843, 844, 875, 876, 877, 878, 879, 880, 887, 888, 881, 882, 883, 884] (by decide +kernel) (by decide +kernel)
set_option maxRecDepth 20000 in
theorem gL_law_X6_word : GoodIn wsL_law (wsV RL 38 RX6 yX6_word wsX6_word) := goodIn_app (goodIn_of _ (by decide +kernel)) ggL_law_X6_word
set_option maxRecDepth 20000 in
theorem ggL_law_X7_word : GoodIn wsL_law wsX7_word := goodIn_r _ [440, 137, 342, 141, 142, 138, 139, 140, 182, 183, 5, 184, 441, 442, 443, 444, 445, 446, 447, 448, 150, 151, 449, 450, 451, 452, 453, 454, 455, 136, 132, 143, 135, 456, 457, 458, 459, 460, 461, 462, 463, 464, 465, 466, 133, 467, 468, 469, 470, 134, 471, 472, 473, 474, 845, 846, 847, 848, 849, 850, 851, 852, 853, 854, 855, 856, 857, 858, 859, 860, 861, 862, 863, 864, 865, 866, 867, 868, 869, 870, 871, 872] (by decide +kernel) (by decide +kernel)
set_option maxRecDepth 20000 in
theorem gL_law_X7_word : GoodIn wsL_law (wsV RL 41 RX7 yX7_word wsX7_word) := goodIn_app (goodIn_of _ (by decide +kernel)) ggL_law_X7_word
set_option maxRecDepth 20000 in
theorem ggL_law_X6_heard : GoodIn wsL_law wsX6_heard := goodIn_r _ [478, 20, 30, 107, 108, 2, 109, 110, 111, 112, 479, 480, 481, 347, 348, 349, 19, 350, 351, 289, 290, 291, 63, 292, 167, 168, 38, 169, 77, 356, 357, 358, 359, 25, 360, 361, 362, 24, 363, 82, 83, 364, 365, 53, 366, 367, 74, 75, 76, 368, 369, 370, 371, 372, 118, 119, 120, 56, 373, 326, 327, 328, 62, 374, 330, 331, 332, 72, 375, 376, 377, 378, 379, 334, 335, 336, 337, 212, 213, 214, 380, 381, 382, 29, 383, 89, 90, 384, 385, 386, 387, 388, 389, 390, 391, 392, 393, 394, 395, 396, 397, 398, 399, 400, 401, 402, 403, 404, 405, 406, 407, 408, 409, 410, 411, 412, 413, 414, 415, 416, 417, 418, 419, 420, 421, 422, 423, 424, 425, 426, 427, 482, 483, 484, 485, 835, 836, 837, 838, 839, 840, 841, 842, 843, 844, 875, 876, 877, 878, 879, 880, 887, 888, 881, 882, 883, 884] (by decide +kernel) (by decide +kernel)
set_option maxRecDepth 20000 in
theorem gL_law_X6_heard : GoodIn wsL_law (wsV RL 42 RX6 yX6_heard wsX6_heard) := goodIn_app (goodIn_of _ (by decide +kernel)) ggL_law_X6_heard
set_option maxRecDepth 20000 in
theorem ggL_law_X7_heard : GoodIn wsL_law wsX7_heard := goodIn_r _ [489, 490, 141, 151, 270, 271, 5, 272, 273, 182, 183, 184, 441, 442, 443, 444, 137, 138, 139, 140, 445, 446, 447, 448, 150, 449, 450, 451, 452, 453, 454, 455, 136, 132, 143, 135, 456, 457, 458, 459, 460, 461, 462, 463, 464, 465, 466, 133, 467, 468, 469, 470, 134, 845, 846, 847, 848, 849, 850, 851, 852, 853, 854, 855, 856, 857, 858, 859, 860, 861, 862, 863, 864, 865, 866, 867, 868, 869, 870, 871, 872] (by decide +kernel) (by decide +kernel)
set_option maxRecDepth 20000 in
theorem gL_law_X7_heard : GoodIn wsL_law (wsV RL 45 RX7 yX7_heard wsX7_heard) := goodIn_app (goodIn_of _ (by decide +kernel)) ggL_law_X7_heard
set_option maxRecDepth 20000 in
theorem ggL_law_X6_clear : GoodIn wsL_law wsX6_clear := goodIn_r _ [494, 20, 107, 108, 2, 109, 110, 111, 112, 495, 496, 497, 498, 30, 25, 347, 348, 349, 19, 350, 351, 289, 290, 291, 63, 292, 167, 168, 38, 169, 77, 356, 357, 358, 359, 360, 361, 362, 24, 363, 82, 83, 364, 365, 53, 366, 367, 74, 75, 76, 368, 369, 370, 371, 372, 118, 119, 120, 56, 373, 326, 327, 328, 62, 374, 330, 331, 332, 72, 375, 376, 377, 378, 379, 334, 335, 336, 337, 212, 213, 214, 380, 381, 382, 29, 383, 89, 90, 384, 385, 386, 387, 388, 389, 390, 391, 392, 393, 394, 395, 396, 397, 398, 399, 400, 401, 402, 403, 404, 405, 406, 407, 408, 409, 410, 411, 412, 413, 414, 415, 416, 417, 418, 419, 420, 421, 422, 423, 424, 425, 426, 427, 428, 429, 430, 431, 432, 433, 434, 435, 499, 500, 501, 502, 503, 504, 505, 835, 836, 837, 838, 839, 840, 841, 842, 843, 844, 875, 876, 877, 878, 879, 880, 887, 888, 881, 882, 883, 884] (by decide +kernel) (by decide +kernel)
set_option maxRecDepth 20000 in
theorem gL_law_X6_clear : GoodIn wsL_law (wsV RL 46 RX6 yX6_clear wsX6_clear) := goodIn_app (goodIn_of _ (by decide +kernel)) ggL_law_X6_clear
set_option maxRecDepth 20000 in
theorem ggL_law_X7_clear : GoodIn wsL_law wsX7_clear := goodIn_r _ [509, 141, 270, 271, 5, 272, 273, 182, 183, 184, 510, 511, 512, 513, 441, 442, 443, 444, 137, 138, 139, 140, 445, 446, 447, 448, 150, 151, 449, 450, 451, 452, 453, 454, 455, 136, 132, 143, 135, 456, 457, 458, 459, 460, 461, 462, 463, 464, 465, 466, 133, 467, 468, 469, 470, 134, 514, 515, 516, 517, 471, 472, 473, 474, 518, 519, 520, 845, 846, 847, 848, 849, 850, 851, 852, 853, 854, 855, 856, 857, 858, 859, 860, 861, 862, 863, 864, 865, 866, 867, 868, 869, 870, 871, 872] (by decide +kernel) (by decide +kernel)
set_option maxRecDepth 20000 in
theorem gL_law_X7_clear : GoodIn wsL_law (wsV RL 50 RX7 yX7_clear wsX7_clear) := goodIn_app (goodIn_of _ (by decide +kernel)) ggL_law_X7_clear
set_option maxRecDepth 20000 in
theorem ggL_law_X6_rent : GoodIn wsL_law wsX6_rent := goodIn_r _ [524, 20, 525, 526, 527, 2, 528, 30, 25, 347, 348, 349, 19, 350, 351, 289, 290, 291, 63, 292, 167, 168, 38, 169, 77, 356, 357, 358, 359, 360, 361, 362, 24, 363, 82, 83, 364, 365, 53, 366, 367, 74, 75, 76, 368, 369, 370, 371, 372, 118, 119, 120, 56, 373, 326, 327, 328, 62, 374, 330, 331, 332, 72, 375, 376, 377, 378, 379, 334, 335, 336, 337, 212, 213, 214, 380, 381, 382, 29, 383, 89, 90, 384, 385, 386, 387, 388, 389, 390, 391, 392, 393, 394, 395, 396, 397, 398, 399, 400, 401, 402, 403, 404, 405, 406, 407, 408, 409, 410, 411, 412, 413, 414, 415, 416, 417, 418, 419, 420, 421, 422, 423, 424, 425, 426, 427, 529, 530, 531, 532, 533, 534, 535, 536, 432, 433, 434, 435, 835, 836, 837, 838, 839, 840, 841, 842, 843, 844, 875, 876, 877, 878, 879, 880, 887, 888, 881, 882, 883, 884] (by decide +kernel) (by decide +kernel)
set_option maxRecDepth 20000 in
theorem gL_law_X6_rent : GoodIn wsL_law (wsV RL 51 RX6 yX6_rent wsX6_rent) := goodIn_app (goodIn_of _ (by decide +kernel)) ggL_law_X6_rent
set_option maxRecDepth 20000 in
theorem ggL_law_X7_rent : GoodIn wsL_law wsX7_rent := goodIn_r _ [540, 141, 541, 542, 543, 5, 544, 137, 441, 442, 443, 444, 138, 139, 140, 445, 446, 447, 448, 150, 151, 449, 450, 451, 452, 453, 454, 455, 136, 132, 143, 135, 456, 457, 458, 459, 460, 461, 462, 463, 464, 465, 466, 133, 467, 468, 469, 470, 134, 545, 546, 547, 548, 845, 846, 847, 848, 849, 850, 851, 852, 853, 854, 855, 856, 857, 858, 859, 860, 861, 862, 863, 864, 865, 866, 867, 868, 869, 870, 871, 872] (by decide +kernel) (by decide +kernel)
set_option maxRecDepth 20000 in
theorem gL_law_X7_rent : GoodIn wsL_law (wsV RL 54 RX7 yX7_rent wsX7_rent) := goodIn_app (goodIn_of _ (by decide +kernel)) ggL_law_X7_rent
set_option maxRecDepth 20000 in
theorem ggL_law_X6_place : GoodIn wsL_law wsX6_place := goodIn_r _ [552, 21, 20, 110, 111, 2, 112, 553, 554, 555, 556, 293, 294, 295, 19, 296, 62, 63, 69, 70, 71, 72, 297, 298, 299, 38, 300, 77, 301, 74, 75, 76, 302, 212, 213, 214, 56, 117, 118, 119, 120, 495, 496, 497, 498, 30, 25, 347, 348, 349, 350, 351, 289, 290, 291, 292, 167, 168, 169, 356, 357, 358, 359, 360, 361, 362, 24, 363, 82, 83, 364, 365, 53, 366, 367, 368, 369, 370, 371, 372, 373, 326, 327, 328, 374, 330, 331, 332, 375, 376, 377, 378, 379, 334, 335, 336, 337, 380, 381, 382, 29, 383, 89, 90, 384, 385, 386, 387, 388, 389, 390, 391, 392, 393, 394, 395, 396, 397, 398, 399, 400, 401, 402, 403, 404, 405, 406, 407, 408, 409, 410, 411, 412, 413, 414, 415, 416, 417, 418, 419, 420, 421, 422, 423, 424, 425, 426, 427, 428, 429, 430, 431, 432, 433, 434, 435, 499, 500, 501, 502, 503, 504, 505, 525, 526, 527, 528, 529, 530, 531, 532, 533, 534, 535, 536, 557, 558, 559, 560, 835, 836, 837, 838, 839, 840, 841, 842, 843, 844, 875, 876, 877, 878, 879, 880, 887, 888, 881, 882, 883, 884] (by decide +kernel) (by decide +kernel)
set_option maxRecDepth 20000 in
theorem gL_law_X6_place : GoodIn wsL_law (wsV RL 55 RX6 yX6_place wsX6_place) := goodIn_app (goodIn_of _ (by decide +kernel)) ggL_law_X6_place
set_option maxRecDepth 20000 in
theorem ggL_law_X7_place : GoodIn wsL_law wsX7_place := goodIn_r _ [564, 342, 142, 141, 182, 183, 5, 184, 510, 511, 512, 513, 441, 442, 443, 444, 137, 138, 139, 140, 445, 446, 447, 448, 150, 151, 449, 450, 451, 452, 453, 454, 455, 136, 132, 143, 135, 456, 457, 458, 459, 460, 461, 462, 463, 464, 465, 466, 133, 467, 468, 469, 470, 134, 514, 515, 516, 517, 471, 472, 473, 474, 518, 519, 520, 541, 542, 543, 544, 545, 546, 547, 548, 845, 846, 847, 848, 849, 850, 851, 852, 853, 854, 855, 856, 857, 858, 859, 860, 861, 862, 863, 864, 865, 866, 867, 868, 869, 870, 871, 872] (by decide +kernel) (by decide +kernel)
set_option maxRecDepth 20000 in
theorem gL_law_X7_place : GoodIn wsL_law (wsV RL 58 RX7 yX7_place wsX7_place) := goodIn_app (goodIn_of _ (by decide +kernel)) ggL_law_X7_place
set_option maxRecDepth 20000 in
theorem ggL_law_X6_go : GoodIn wsL_law wsX6_go := goodIn_r _ [568, 34, 20, 110, 111, 2, 112, 107, 108, 109, 569, 570, 571, 33, 572, 308, 98, 573, 574, 575, 576, 577, 578, 579, 580, 581, 294, 295, 19, 296, 62, 63, 69, 70, 71, 72, 297, 298, 299, 38, 300, 77, 301, 74, 75, 76, 302, 212, 213, 214, 56, 117, 118, 119, 120, 835, 836, 837, 838, 839, 840, 841, 842, 843, 844, 875, 876, 877, 878, 879, 880, 885, 886, 887, 888] (by decide +kernel) (by decide +kernel)
set_option maxRecDepth 20000 in
theorem gL_law_X6_go : GoodIn wsL_law (wsV RL 59 RX6 yX6_go wsX6_go) := goodIn_app (goodIn_of _ (by decide +kernel)) ggL_law_X6_go
set_option maxRecDepth 20000 in
theorem ggL_law_X7_go : GoodIn wsL_law wsX7_go := goodIn_r _ [585, 141, 142, 182, 183, 5, 184, 270, 271, 272, 273, 586, 587, 588, 589, 314, 144, 143, 137, 845, 846, 847, 848, 849, 850, 851, 852, 853, 854, 855, 856, 857, 858, 859, 860, 861, 862, 863, 864, 865, 866, 867, 868, 869, 870, 871, 872] (by decide +kernel) (by decide +kernel)
set_option maxRecDepth 20000 in
theorem gL_law_X7_go : GoodIn wsL_law (wsV RL 62 RX7 yX7_go wsX7_go) := goodIn_app (goodIn_of _ (by decide +kernel)) ggL_law_X7_go
set_option maxRecDepth 20000 in
theorem ggL_law_X6_snow : GoodIn wsL_law wsX6_snow := goodIn_r _ [593, 20, 34, 594, 595, 596, 19, 597, 598, 326, 327, 328, 62, 292, 167, 168, 38, 169, 77, 110, 111, 2, 112, 569, 570, 571, 33, 572, 308, 98, 573, 574, 575, 576, 577, 578, 579, 580, 581, 294, 295, 296, 63, 69, 70, 71, 72, 297, 298, 299, 300, 301, 74, 75, 76, 302, 212, 213, 214, 56, 117, 118, 119, 120, 835, 836, 837, 838, 839, 840, 841, 842, 843, 844, 875, 876, 877, 878, 879, 880, 887, 888, 885, 886] (by decide +kernel) (by decide +kernel)
set_option maxRecDepth 20000 in
theorem gL_law_X6_snow : GoodIn wsL_law (wsV RL 63 RX6 yX6_snow wsX6_snow) := goodIn_app (goodIn_of _ (by decide +kernel)) ggL_law_X6_snow
set_option maxRecDepth 20000 in
theorem ggL_law_X7_snow : GoodIn wsL_law wsX7_snow := goodIn_r _ [602, 132, 143, 182, 183, 5, 184, 586, 587, 588, 589, 314, 144, 141, 142, 137, 845, 846, 847, 848, 849, 850, 851, 852, 853, 854, 855, 856, 857, 858, 859, 860, 861, 862, 863, 864, 865, 866, 867, 868, 869, 870, 871, 872] (by decide +kernel) (by decide +kernel)
set_option maxRecDepth 20000 in
theorem gL_law_X7_snow : GoodIn wsL_law (wsV RL 66 RX7 yX7_snow wsX7_snow) := goodIn_app (goodIn_of _ (by decide +kernel)) ggL_law_X7_snow
set_option maxRecDepth 20000 in
theorem ggL_law_X6_say : GoodIn wsL_law wsX6_say := goodIn_r _ [606, 20, 34, 607, 125, 2, 126, 110, 111, 112, 288, 289, 290, 19, 291, 63, 292, 167, 168, 38, 169, 77, 569, 570, 571, 33, 572, 308, 98, 573, 574, 575, 576, 577, 578, 579, 580, 581, 294, 295, 296, 62, 69, 70, 71, 72, 297, 298, 299, 300, 301, 74, 75, 76, 302, 212, 213, 214, 56, 117, 118, 119, 120, 121, 122, 123, 124, 113, 114, 115, 116, 835, 836, 837, 838, 839, 840, 841, 842, 843, 844, 875, 876, 877, 878, 879, 880, 887, 888, 885, 886] (by decide +kernel) (by decide +kernel)
set_option maxRecDepth 20000 in
theorem gL_law_X6_say : GoodIn wsL_law (wsV RL 67 RX6 yX6_say wsX6_say) := goodIn_app (goodIn_of _ (by decide +kernel)) ggL_law_X6_say
set_option maxRecDepth 20000 in
theorem ggL_law_X7_say : GoodIn wsL_law wsX7_say := goodIn_r _ [611, 137, 274, 275, 5, 276, 277, 278, 279, 182, 183, 184, 586, 587, 588, 589, 314, 144, 141, 142, 143, 280, 281, 282, 283, 138, 139, 140, 845, 846, 847, 848, 849, 850, 851, 852, 853, 854, 855, 856, 857, 858, 859, 860, 861, 862, 863, 864, 865, 866, 867, 868, 869, 870, 871, 872] (by decide +kernel) (by decide +kernel)
set_option maxRecDepth 20000 in
theorem gL_law_X7_say : GoodIn wsL_law (wsV RL 71 RX7 yX7_say wsX7_say) := goodIn_app (goodIn_of _ (by decide +kernel)) ggL_law_X7_say
set_option maxRecDepth 20000 in
theorem ggL_law_X6_undo : GoodIn wsL_law wsX6_undo := goodIn_r _ [615, 34, 20, 616, 617, 618, 33, 619, 308, 577, 578, 579, 580, 98, 581, 294, 295, 19, 296, 62, 63, 69, 70, 71, 72, 297, 298, 299, 38, 300, 77, 301, 74, 75, 76, 302, 212, 213, 214, 56, 117, 118, 119, 120, 620, 621, 622, 623, 835, 836, 837, 838, 839, 840, 841, 842, 843, 844, 885, 886, 875, 876, 877, 878, 879, 880, 887, 888] (by decide +kernel) (by decide +kernel)
set_option maxRecDepth 20000 in
theorem gL_law_X6_undo : GoodIn wsL_law (wsV RL 72 RX6 yX6_undo wsX6_undo) := goodIn_app (goodIn_of _ (by decide +kernel)) ggL_law_X6_undo
set_option maxRecDepth 20000 in
theorem ggL_law_X7_undo : GoodIn wsL_law wsX7_undo := goodIn_r _ [627, 314, 141, 144, 142, 143, 137, 845, 846, 847, 848, 849, 850, 851, 852, 853, 854, 855, 856, 857, 858, 859, 860, 861, 862, 863, 864, 865, 866, 867, 868, 869, 870, 871, 872] (by decide +kernel) (by decide +kernel)
set_option maxRecDepth 20000 in
theorem gL_law_X7_undo : GoodIn wsL_law (wsV RL 75 RX7 yX7_undo wsX7_undo) := goodIn_app (goodIn_of _ (by decide +kernel)) ggL_law_X7_undo
set_option maxRecDepth 20000 in
theorem ggL_law_X6_leftOut : GoodIn wsL_law wsX6_leftOut := goodIn_r _ [631, 20, 347, 348, 349, 19, 350, 351, 289, 290, 291, 63, 292, 167, 168, 38, 169, 77, 499, 500, 501, 502, 503, 504, 505, 352, 353, 354, 2, 355, 30, 25, 356, 357, 358, 359, 360, 361, 362, 24, 363, 82, 83, 364, 365, 53, 366, 367, 74, 75, 76, 368, 369, 370, 371, 372, 118, 119, 120, 56, 373, 326, 327, 328, 62, 374, 330, 331, 332, 72, 375, 376, 377, 378, 379, 334, 335, 336, 337, 212, 213, 214, 380, 381, 382, 29, 383, 89, 90, 384, 385, 386, 387, 388, 389, 390, 391, 392, 393, 394, 395, 396, 397, 398, 399, 400, 401, 402, 403, 404, 405, 406, 407, 408, 409, 410, 411, 412, 413, 414, 415, 416, 417, 418, 419, 420, 421, 422, 423, 424, 425, 426, 427, 428, 429, 430, 431, 432, 433, 434, 435, 835, 836, 837, 838, 839, 840, 841, 842, 843, 844, 875, 876, 877, 878, 879, 880, 887, 888, 881, 882, 883, 884] (by decide +kernel) (by decide +kernel)
set_option maxRecDepth 20000 in
theorem gL_law_X6_leftOut : GoodIn wsL_law (wsV RL 76 RX6 yX6_leftOut wsX6_leftOut) := goodIn_app (goodIn_of _ (by decide +kernel)) ggL_law_X6_leftOut
set_option maxRecDepth 20000 in
theorem ggL_law_X7_leftOut : GoodIn wsL_law wsX7_leftOut := goodIn_r _ [635, 141, 142, 636, 637, 638, 5, 639, 137, 441, 442, 443, 444, 138, 139, 140, 445, 446, 447, 448, 150, 151, 449, 450, 451, 452, 453, 454, 455, 136, 132, 143, 135, 456, 457, 458, 459, 460, 461, 462, 463, 464, 465, 466, 133, 467, 468, 469, 470, 134, 514, 515, 516, 517, 471, 472, 473, 474, 518, 519, 520, 845, 846, 847, 848, 849, 850, 851, 852, 853, 854, 855, 856, 857, 858, 859, 860, 861, 862, 863, 864, 865, 866, 867, 868, 869, 870, 871, 872] (by decide +kernel) (by decide +kernel)
set_option maxRecDepth 20000 in
theorem gL_law_X7_leftOut : GoodIn wsL_law (wsV RL 79 RX7 yX7_leftOut wsX7_leftOut) := goodIn_app (goodIn_of _ (by decide +kernel)) ggL_law_X7_leftOut
set_option maxRecDepth 20000 in
theorem ggL_law_X6_talk : GoodIn wsL_law wsX6_talk := goodIn_r _ [643, 39, 110, 111, 2, 112, 644, 118, 119, 38, 120, 77, 56, 645, 167, 168, 169, 835, 836, 837, 838, 839, 840, 841, 842, 843, 844, 887, 888] (by decide +kernel) (by decide +kernel)
set_option maxRecDepth 20000 in
theorem gL_law_X6_talk : GoodIn wsL_law (wsV RL 80 RX6 yX6_talk wsX6_talk) := goodIn_app (goodIn_of _ (by decide +kernel)) ggL_law_X6_talk
set_option maxRecDepth 20000 in
theorem ggL_law_X7_talk : GoodIn wsL_law wsX7_talk := goodIn_r _ [649, 342, 315, 145, 182, 183, 5, 184, 845, 846, 847, 848, 849, 850, 851, 852, 853, 854, 855, 856, 857, 858, 859, 860, 861, 862, 863, 864, 865, 866, 867, 868, 869, 870, 871, 872] (by decide +kernel) (by decide +kernel)
set_option maxRecDepth 20000 in
theorem gL_law_X7_talk : GoodIn wsL_law (wsV RL 83 RX7 yX7_talk wsX7_talk) := goodIn_app (goodIn_of _ (by decide +kernel)) ggL_law_X7_talk
set_option maxRecDepth 20000 in
theorem ggL_law_X6_noTalk : GoodIn wsL_law wsX6_noTalk := goodIn_r _ [653, 39, 645, 167, 168, 38, 169, 77, 303, 74, 75, 76, 835, 836, 837, 838, 839, 840, 841, 842, 843, 844, 887, 888] (by decide +kernel) (by decide +kernel)
set_option maxRecDepth 20000 in
theorem gL_law_X6_noTalk : GoodIn wsL_law (wsV RL 84 RX6 yX6_noTalk wsX6_noTalk) := goodIn_app (goodIn_of _ (by decide +kernel)) ggL_law_X6_noTalk
set_option maxRecDepth 20000 in
theorem ggL_law_X7_noTalk : GoodIn wsL_law wsX7_noTalk := goodIn_r _ [657, 315, 845, 846, 847, 848, 849, 850, 851, 852, 853, 854, 855, 856, 857, 858, 859, 860, 861, 862, 863, 864, 865, 866, 867, 868, 869, 870, 871, 872] (by decide +kernel) (by decide +kernel)
set_option maxRecDepth 20000 in
theorem gL_law_X7_noTalk : GoodIn wsL_law (wsV RL 87 RX7 yX7_noTalk wsX7_noTalk) := goodIn_app (goodIn_of _ (by decide +kernel)) ggL_law_X7_noTalk
set_option maxRecDepth 20000 in
theorem ggL_law_X6_lines : GoodIn wsL_law wsX6_lines := goodIn_r _ [661, 39, 645, 167, 168, 38, 169, 77, 662, 663, 664, 2, 665, 25, 20, 30, 360, 361, 362, 24, 363, 82, 83, 364, 365, 53, 366, 367, 74, 75, 76, 368, 369, 370, 371, 372, 118, 119, 120, 56, 373, 326, 327, 19, 328, 62, 292, 374, 330, 331, 332, 72, 375, 376, 377, 378, 379, 334, 335, 336, 337, 212, 213, 214, 380, 381, 382, 29, 383, 89, 90, 384, 385, 386, 387, 388, 389, 390, 391, 666, 667, 668, 499, 500, 501, 502, 503, 504, 505, 669, 670, 671, 672, 673, 674, 675, 676, 677, 411, 412, 413, 414, 678, 679, 680, 681, 424, 425, 426, 427, 682, 683, 684, 685, 686, 687, 688, 689, 405, 406, 407, 408, 409, 410, 415, 416, 417, 418, 419, 420, 421, 422, 423, 482, 483, 484, 485, 690, 835, 836, 837, 838, 839, 840, 841, 842, 843, 844, 887, 888, 875, 876, 877, 878, 879, 880, 881, 882, 883, 884] (by decide +kernel) (by decide +kernel)
set_option maxRecDepth 20000 in
theorem gL_law_X6_lines : GoodIn wsL_law (wsV RL 88 RX6 yX6_lines wsX6_lines) := goodIn_app (goodIn_of _ (by decide +kernel)) ggL_law_X6_lines
set_option maxRecDepth 20000 in
theorem ggL_law_X7_lines : GoodIn wsL_law wsX7_lines := goodIn_r _ [694, 315, 152, 695, 696, 697, 5, 698, 699, 700, 701, 702, 141, 142, 151, 145, 445, 446, 447, 448, 150, 452, 453, 454, 455, 136, 132, 143, 135, 456, 457, 458, 459, 460, 461, 462, 449, 450, 451, 463, 464, 465, 466, 133, 467, 468, 469, 470, 134, 845, 846, 847, 848, 849, 850, 851, 852, 853, 854, 855, 856, 857, 858, 859, 860, 861, 862, 863, 864, 865, 866, 867, 868, 869, 870, 871, 872] (by decide +kernel) (by decide +kernel)
set_option maxRecDepth 20000 in
theorem gL_law_X7_lines : GoodIn wsL_law (wsV RL 91 RX7 yX7_lines wsX7_lines) := goodIn_app (goodIn_of _ (by decide +kernel)) ggL_law_X7_lines
set_option maxRecDepth 20000 in
theorem ggL_law_X6_second : GoodIn wsL_law wsX6_second := goodIn_r _ [706, 25, 20, 26, 107, 108, 2, 109, 110, 111, 112, 360, 361, 362, 24, 363, 82, 83, 364, 365, 53, 366, 367, 74, 75, 38, 76, 77, 368, 369, 370, 371, 372, 118, 119, 120, 56, 373, 326, 327, 19, 328, 62, 292, 167, 168, 169, 374, 330, 331, 332, 72, 375, 376, 377, 378, 379, 334, 335, 336, 337, 212, 213, 214, 707, 708, 709, 710, 30, 347, 348, 349, 350, 351, 289, 290, 291, 63, 380, 381, 382, 29, 383, 89, 90, 384, 385, 386, 387, 388, 389, 390, 391, 392, 393, 394, 395, 396, 397, 398, 399, 400, 401, 402, 403, 404, 405, 406, 407, 408, 409, 410, 411, 412, 413, 414, 415, 416, 417, 418, 419, 420, 421, 422, 423, 424, 425, 426, 427, 428, 429, 430, 431, 432, 433, 434, 435, 835, 836, 837, 838, 839, 840, 841, 842, 843, 844, 875, 876, 877, 878, 879, 880, 881, 882, 887, 888, 883, 884] (by decide +kernel) (by decide +kernel)
set_option maxRecDepth 20000 in
theorem gL_law_X6_second : GoodIn wsL_law (wsV RL 92 RX6 yX6_second wsX6_second) := goodIn_app (goodIn_of _ (by decide +kernel)) ggL_law_X6_second
set_option maxRecDepth 20000 in
theorem ggL_law_X7_second : GoodIn wsL_law wsX7_second := goodIn_r _ [714, 141, 142, 137, 138, 139, 140, 270, 271, 5, 272, 273, 182, 183, 184, 441, 442, 443, 444, 445, 446, 447, 448, 150, 151, 449, 450, 451, 452, 453, 454, 455, 136, 132, 143, 135, 456, 457, 458, 459, 460, 461, 462, 463, 464, 465, 466, 133, 467, 468, 469, 470, 134, 471, 472, 473, 474, 845, 846, 847, 848, 849, 850, 851, 852, 853, 854, 855, 856, 857, 858, 859, 860, 861, 862, 863, 864, 865, 866, 867, 868, 869, 870, 871, 872] (by decide +kernel) (by decide +kernel)
set_option maxRecDepth 20000 in
theorem gL_law_X7_second : GoodIn wsL_law (wsV RL 95 RX7 yX7_second wsX7_second) := goodIn_app (goodIn_of _ (by decide +kernel)) ggL_law_X7_second
set_option maxRecDepth 20000 in
theorem ggL_law_X6_thick : GoodIn wsL_law wsX6_thick := goodIn_r _ [718, 20, 21, 347, 348, 349, 19, 350, 351, 289, 290, 291, 63, 292, 167, 168, 38, 169, 77, 293, 294, 295, 296, 62, 69, 70, 71, 72, 297, 298, 299, 300, 301, 74, 75, 76, 302, 212, 213, 214, 56, 117, 118, 119, 120, 352, 353, 354, 2, 355, 30, 25, 356, 357, 358, 359, 360, 361, 362, 24, 363, 82, 83, 364, 365, 53, 366, 367, 368, 369, 370, 371, 372, 373, 326, 327, 328, 374, 330, 331, 332, 375, 376, 377, 378, 379, 334, 335, 336, 337, 380, 381, 382, 29, 383, 89, 90, 384, 385, 386, 387, 388, 389, 390, 391, 392, 393, 394, 395, 396, 397, 398, 399, 400, 401, 402, 403, 404, 405, 406, 407, 408, 409, 410, 411, 412, 413, 414, 415, 416, 417, 418, 419, 420, 421, 422, 423, 424, 425, 426, 427, 428, 429, 430, 431, 432, 433, 434, 435, 835, 836, 837, 838, 839, 840, 841, 842, 843, 844, 875, 876, 877, 878, 879, 880, 887, 888, 881, 882, 883, 884] (by decide +kernel) (by decide +kernel)
set_option maxRecDepth 20000 in
theorem gL_law_X6_thick : GoodIn wsL_law (wsV RL 96 RX6 yX6_thick wsX6_thick) := goodIn_app (goodIn_of _ (by decide +kernel)) ggL_law_X6_thick
set_option maxRecDepth 20000 in
theorem ggL_law_X7_thick : GoodIn wsL_law wsX7_thick := goodIn_r _ [722, 136, 141, 142, 137, 510, 511, 512, 5, 513, 441, 442, 443, 444, 138, 139, 140, 445, 446, 447, 448, 150, 151, 449, 450, 451, 452, 453, 454, 455, 132, 143, 135, 456, 457, 458, 459, 460, 461, 462, 463, 464, 465, 466, 133, 467, 468, 469, 470, 134, 514, 515, 516, 517, 471, 472, 473, 474, 518, 519, 520, 845, 846, 847, 848, 849, 850, 851, 852, 853, 854, 855, 856, 857, 858, 859, 860, 861, 862, 863, 864, 865, 866, 867, 868, 869, 870, 871, 872] (by decide +kernel) (by decide +kernel)
set_option maxRecDepth 20000 in
theorem gL_law_X7_thick : GoodIn wsL_law (wsV RL 99 RX7 yX7_thick wsX7_thick) := goodIn_app (goodIn_of _ (by decide +kernel)) ggL_law_X7_thick
set_option maxRecDepth 20000 in
theorem ggL_law_X6_heckle : GoodIn wsL_law wsX6_heckle := goodIn_r _ [726, 107, 108, 2, 109, 110, 111, 112, 727, 728, 729, 730, 20, 26, 25, 347, 348, 349, 19, 350, 351, 289, 290, 291, 63, 292, 167, 168, 38, 169, 77, 352, 353, 354, 355, 30, 356, 357, 358, 359, 360, 361, 362, 24, 363, 82, 83, 364, 365, 53, 366, 367, 74, 75, 76, 368, 369, 370, 371, 372, 118, 119, 120, 56, 373, 326, 327, 328, 62, 374, 330, 331, 332, 72, 375, 376, 377, 378, 379, 334, 335, 336, 337, 212, 213, 214, 380, 381, 382, 29, 383, 89, 90, 384, 385, 386, 387, 388, 389, 390, 391, 392, 393, 394, 395, 396, 397, 398, 399, 400, 401, 402, 403, 404, 405, 406, 407, 408, 409, 410, 411, 412, 413, 414, 415, 416, 417, 418, 419, 420, 421, 422, 423, 424, 425, 426, 427, 428, 429, 430, 431, 432, 433, 434, 435, 288, 436, 677, 731, 732, 733, 734, 735, 736, 737, 738, 739, 740, 835, 836, 837, 838, 839, 840, 841, 842, 843, 844, 875, 876, 877, 878, 879, 880, 887, 888, 881, 882, 883, 884] (by decide +kernel) (by decide +kernel)
set_option maxRecDepth 20000 in
theorem gL_law_X6_heckle : GoodIn wsL_law (wsV RL 100 RX6 yX6_heckle wsX6_heckle) := goodIn_app (goodIn_of _ (by decide +kernel)) ggL_law_X6_heckle
set_option maxRecDepth 20000 in
theorem ggL_law_X7_heckle : GoodIn wsL_law wsX7_heckle := goodIn_r _ [744, 278, 141, 142, 270, 271, 5, 272, 273, 182, 183, 184, 441, 442, 443, 444, 137, 138, 139, 140, 445, 446, 447, 448, 150, 151, 449, 450, 451, 452, 453, 454, 455, 136, 132, 143, 135, 456, 457, 458, 459, 460, 461, 462, 463, 464, 465, 466, 133, 467, 468, 469, 470, 134, 514, 515, 516, 517, 471, 472, 473, 474, 845, 846, 847, 848, 849, 850, 851, 852, 853, 854, 855, 856, 857, 858, 859, 860, 861, 862, 863, 864, 865, 866, 867, 868, 869, 870, 871, 872] (by decide +kernel) (by decide +kernel)
set_option maxRecDepth 20000 in
theorem gL_law_X7_heckle : GoodIn wsL_law (wsV RL 103 RX7 yX7_heckle wsX7_heckle) := goodIn_app (goodIn_of _ (by decide +kernel)) ggL_law_X7_heckle
set_option maxRecDepth 20000 in
theorem ggL_law_X6_ear : GoodIn wsL_law wsX6_ear := goodIn_r _ [748, 40, 107, 108, 2, 109, 110, 111, 112, 479, 480, 481, 749, 114, 115, 38, 116, 77, 56, 117, 118, 119, 120, 645, 167, 168, 169, 835, 836, 837, 838, 839, 840, 841, 842, 843, 844, 887, 888] (by decide +kernel) (by decide +kernel)
set_option maxRecDepth 20000 in
theorem gL_law_X6_ear : GoodIn wsL_law (wsV RL 104 RX6 yX6_ear wsX6_ear) := goodIn_app (goodIn_of _ (by decide +kernel)) ggL_law_X6_ear
set_option maxRecDepth 20000 in
theorem ggL_law_X7_ear : GoodIn wsL_law wsX7_ear := goodIn_r _ [753, 490, 179, 316, 146, 147, 148, 270, 271, 5, 272, 273, 182, 183, 184, 845, 846, 847, 848, 849, 850, 851, 852, 853, 854, 855, 856, 857, 858, 859, 860, 861, 862, 863, 864, 865, 866, 867, 868, 869, 870, 871, 872] (by decide +kernel) (by decide +kernel)
set_option maxRecDepth 20000 in
theorem gL_law_X7_ear : GoodIn wsL_law (wsV RL 107 RX7 yX7_ear wsX7_ear) := goodIn_app (goodIn_of _ (by decide +kernel)) ggL_law_X7_ear
set_option maxRecDepth 20000 in
theorem ggL_law_X6_noEars : GoodIn wsL_law wsX6_noEars := goodIn_r _ [757, 40, 645, 167, 168, 38, 169, 77, 303, 74, 75, 76, 835, 836, 837, 838, 839, 840, 841, 842, 843, 844, 887, 888] (by decide +kernel) (by decide +kernel)
set_option maxRecDepth 20000 in
theorem gL_law_X6_noEars : GoodIn wsL_law (wsV RL 108 RX6 yX6_noEars wsX6_noEars) := goodIn_app (goodIn_of _ (by decide +kernel)) ggL_law_X6_noEars
set_option maxRecDepth 20000 in
theorem ggL_law_X7_noEars : GoodIn wsL_law wsX7_noEars := goodIn_r _ [761, 316, 845, 846, 847, 848, 849, 850, 851, 852, 853, 854, 855, 856, 857, 858, 859, 860, 861, 862, 863, 864, 865, 866, 867, 868, 869, 870, 871, 872] (by decide +kernel) (by decide +kernel)
set_option maxRecDepth 20000 in
theorem gL_law_X7_noEars : GoodIn wsL_law (wsV RL 111 RX7 yX7_noEars wsX7_noEars) := goodIn_app (goodIn_of _ (by decide +kernel)) ggL_law_X7_noEars
set_option maxRecDepth 20000 in
theorem ggL_law_X6_stood : GoodIn wsL_law wsX6_stood := goodIn_r _ [765, 21, 20, 110, 111, 2, 112, 293, 294, 295, 19, 296, 62, 63, 69, 70, 71, 72, 297, 298, 299, 38, 300, 77, 301, 74, 75, 76, 302, 212, 213, 214, 56, 117, 118, 119, 120, 766, 767, 768, 769, 40, 30, 645, 167, 168, 169, 690, 347, 348, 349, 350, 351, 289, 290, 291, 292, 356, 357, 358, 359, 25, 360, 361, 362, 24, 363, 82, 83, 364, 365, 53, 366, 367, 368, 369, 370, 371, 372, 373, 326, 327, 328, 374, 330, 331, 332, 375, 376, 377, 378, 379, 334, 335, 336, 337, 380, 381, 382, 29, 383, 89, 90, 384, 385, 386, 387, 388, 389, 390, 391, 392, 393, 394, 395, 396, 397, 398, 399, 400, 401, 402, 403, 404, 405, 406, 407, 408, 409, 410, 411, 412, 413, 414, 415, 416, 417, 418, 419, 420, 421, 422, 423, 424, 425, 426, 427, 482, 483, 484, 485, 835, 836, 837, 838, 839, 840, 841, 842, 843, 844, 875, 876, 877, 878, 879, 880, 887, 888, 881, 882, 883, 884] (by decide +kernel) (by decide +kernel)
set_option maxRecDepth 20000 in
theorem gL_law_X6_stood : GoodIn wsL_law (wsV RL 112 RX6 yX6_stood wsX6_stood) := goodIn_app (goodIn_of _ (by decide +kernel)) ggL_law_X6_stood
set_option maxRecDepth 20000 in
theorem ggL_law_X7_stood : GoodIn wsL_law wsX7_stood := goodIn_r _ [773, 182, 183, 5, 184, 774, 775, 776, 777, 316, 146, 151, 147, 148, 441, 442, 443, 444, 137, 138, 139, 140, 445, 446, 447, 448, 150, 449, 450, 451, 452, 453, 454, 455, 136, 132, 143, 135, 456, 457, 458, 459, 460, 461, 462, 463, 464, 465, 466, 133, 467, 468, 469, 470, 134, 845, 846, 847, 848, 849, 850, 851, 852, 853, 854, 855, 856, 857, 858, 859, 860, 861, 862, 863, 864, 865, 866, 867, 868, 869, 870, 871, 872] (by decide +kernel) (by decide +kernel)
set_option maxRecDepth 20000 in
theorem gL_law_X7_stood : GoodIn wsL_law (wsV RL 115 RX7 yX7_stood wsX7_stood) := goodIn_app (goodIn_of _ (by decide +kernel)) ggL_law_X7_stood
set_option maxRecDepth 20000 in
theorem ggL_law_X6_moved : GoodIn wsL_law wsX6_moved := goodIn_r _ [781, 20, 21, 325, 326, 327, 19, 328, 62, 292, 167, 168, 38, 169, 77, 293, 294, 295, 296, 63, 69, 70, 71, 72, 297, 298, 299, 300, 301, 74, 75, 76, 302, 212, 213, 214, 56, 117, 118, 119, 120, 782, 783, 784, 785, 786, 425, 426, 427, 333, 334, 335, 336, 337, 766, 767, 768, 2, 769, 40, 30, 645, 690, 347, 348, 349, 350, 351, 289, 290, 291, 356, 357, 358, 359, 25, 360, 361, 362, 24, 363, 82, 83, 364, 365, 53, 366, 367, 368, 369, 370, 371, 372, 373, 374, 330, 331, 332, 375, 376, 377, 378, 379, 380, 381, 382, 29, 383, 89, 90, 384, 385, 386, 387, 388, 389, 390, 391, 392, 393, 394, 395, 396, 397, 398, 399, 400, 401, 402, 403, 404, 405, 406, 407, 408, 409, 410, 411, 412, 413, 414, 415, 416, 417, 418, 419, 420, 421, 422, 423, 424, 482, 483, 484, 485, 835, 836, 837, 838, 839, 840, 841, 842, 843, 844, 875, 876, 877, 878, 879, 880, 887, 888, 881, 882, 883, 884] (by decide +kernel) (by decide +kernel)
set_option maxRecDepth 20000 in
theorem gL_law_X6_moved : GoodIn wsL_law (wsV RL 116 RX6 yX6_moved wsX6_moved) := goodIn_app (goodIn_of _ (by decide +kernel)) ggL_law_X6_moved
set_option maxRecDepth 20000 in
theorem ggL_law_X7_moved : GoodIn wsL_law wsX7_moved := goodIn_r _ [790, 132, 133, 141, 774, 775, 776, 5, 777, 316, 146, 151, 147, 148, 441, 442, 443, 444, 137, 138, 139, 140, 445, 446, 447, 448, 150, 449, 450, 451, 452, 453, 454, 455, 136, 143, 135, 456, 457, 458, 459, 460, 461, 462, 463, 464, 465, 466, 467, 468, 469, 470, 134, 845, 846, 847, 848, 849, 850, 851, 852, 853, 854, 855, 856, 857, 858, 859, 860, 861, 862, 863, 864, 865, 866, 867, 868, 869, 870, 871, 872] (by decide +kernel) (by decide +kernel)
set_option maxRecDepth 20000 in
theorem gL_law_X7_moved : GoodIn wsL_law (wsV RL 119 RX7 yX7_moved wsX7_moved) := goodIn_app (goodIn_of _ (by decide +kernel)) ggL_law_X7_moved
set_option maxRecDepth 20000 in
theorem ggL_law_X6_evening : GoodIn wsL_law wsX6_evening := goodIn_r _ [794, 20, 25, 30, 110, 111, 2, 112, 347, 348, 349, 19, 350, 351, 289, 290, 291, 63, 292, 167, 168, 38, 169, 77, 360, 361, 362, 24, 363, 82, 83, 364, 365, 53, 366, 367, 74, 75, 76, 368, 369, 370, 371, 372, 118, 119, 120, 56, 373, 326, 327, 328, 62, 374, 330, 331, 332, 72, 375, 376, 377, 378, 379, 334, 335, 336, 337, 212, 213, 214, 380, 381, 382, 29, 383, 89, 90, 384, 385, 386, 387, 388, 389, 390, 391, 392, 393, 394, 395, 396, 397, 398, 399, 400, 401, 402, 403, 404, 405, 406, 407, 408, 409, 410, 411, 412, 413, 414, 415, 416, 417, 418, 419, 420, 421, 422, 423, 424, 425, 426, 427, 288, 795, 796, 797, 798, 799, 800, 801, 26, 436, 802, 428, 429, 430, 431, 432, 433, 434, 435, 499, 500, 501, 502, 503, 504, 505, 835, 836, 837, 838, 839, 840, 841, 842, 843, 844, 875, 876, 877, 878, 879, 880, 887, 888, 881, 882, 883, 884] (by decide +kernel) (by decide +kernel)
set_option maxRecDepth 20000 in
theorem gL_law_X6_evening : GoodIn wsL_law (wsV RL 120 RX6 yX6_evening wsX6_evening) := goodIn_app (goodIn_of _ (by decide +kernel)) ggL_law_X6_evening
set_option maxRecDepth 20000 in
theorem ggL_law_X7_evening : GoodIn wsL_law wsX7_evening := goodIn_r _ [806, 807, 141, 142, 137, 808, 809, 810, 138, 140, 182, 183, 5, 184, 441, 442, 443, 444, 139, 445, 446, 447, 448, 150, 151, 449, 450, 451, 452, 453, 454, 455, 136, 132, 143, 135, 456, 457, 458, 459, 460, 461, 462, 463, 464, 465, 466, 133, 467, 468, 469, 470, 134, 514, 515, 516, 517, 471, 472, 473, 474, 518, 519, 520, 845, 846, 847, 848, 849, 850, 851, 852, 853, 854, 855, 856, 857, 858, 859, 860, 861, 862, 863, 864, 865, 866, 867, 868, 869, 870, 871, 872] (by decide +kernel) (by decide +kernel)
set_option maxRecDepth 20000 in
theorem gL_law_X7_evening : GoodIn wsL_law (wsV RL 123 RX7 yX7_evening wsX7_evening) := goodIn_app (goodIn_of _ (by decide +kernel)) ggL_law_X7_evening
set_option maxRecDepth 20000 in
theorem ggL_law_X6_keep : GoodIn wsL_law wsX6_keep := goodIn_r _ [814, 35, 20, 620, 621, 622, 33, 623, 308, 569, 570, 571, 572, 98, 573, 574, 575, 576, 577, 578, 579, 580, 581, 294, 295, 19, 296, 62, 63, 69, 70, 71, 72, 297, 298, 299, 38, 300, 77, 301, 74, 75, 76, 302, 212, 213, 214, 56, 117, 118, 119, 120, 835, 836, 837, 838, 839, 840, 841, 842, 843, 844, 885, 886, 875, 876, 877, 878, 879, 880, 887, 888] (by decide +kernel) (by decide +kernel)
set_option maxRecDepth 20000 in
theorem gL_law_X6_keep : GoodIn wsL_law (wsV RL 124 RX6 yX6_keep wsX6_keep) := goodIn_app (goodIn_of _ (by decide +kernel)) ggL_law_X6_keep
set_option maxRecDepth 20000 in
theorem ggL_law_X7_keep : GoodIn wsL_law wsX7_keep := goodIn_r _ [818, 313, 317, 318, 319, 5, 320, 137, 141, 142, 143, 138, 139, 140, 845, 846, 847, 848, 849, 850, 851, 852, 853, 854, 855, 856, 857, 858, 859, 860, 861, 862, 863, 864, 865, 866, 867, 868, 869, 870, 871, 872] (by decide +kernel) (by decide +kernel)
set_option maxRecDepth 20000 in
theorem gL_law_X7_keep : GoodIn wsL_law (wsV RL 127 RX7 yX7_keep wsX7_keep) := goodIn_app (goodIn_of _ (by decide +kernel)) ggL_law_X7_keep
set_option maxRecDepth 20000 in
theorem ggL_law_X6_back : GoodIn wsL_law wsX6_back := goodIn_r _ [822, 35, 20, 34, 616, 617, 618, 33, 619, 308, 577, 578, 579, 580, 98, 581, 294, 295, 19, 296, 62, 63, 69, 70, 71, 72, 297, 298, 299, 38, 300, 77, 301, 74, 75, 76, 302, 212, 213, 214, 56, 117, 118, 119, 120, 304, 305, 306, 307, 620, 621, 622, 623, 835, 836, 837, 838, 839, 840, 841, 842, 843, 844, 885, 886, 875, 876, 877, 878, 879, 880, 887, 888] (by decide +kernel) (by decide +kernel)
set_option maxRecDepth 20000 in
theorem gL_law_X6_back : GoodIn wsL_law (wsV RL 128 RX6 yX6_back wsX6_back) := goodIn_app (goodIn_of _ (by decide +kernel)) ggL_law_X6_back
set_option maxRecDepth 20000 in
theorem ggL_law_X7_back : GoodIn wsL_law wsX7_back := goodIn_r _ [826, 313, 314, 317, 318, 319, 5, 320, 137, 141, 142, 143, 138, 139, 140, 845, 846, 847, 848, 849, 850, 851, 852, 853, 854, 855, 856, 857, 858, 859, 860, 861, 862, 863, 864, 865, 866, 867, 868, 869, 870, 871, 872] (by decide +kernel) (by decide +kernel)
set_option maxRecDepth 20000 in
theorem gL_law_X7_back : GoodIn wsL_law (wsV RL 131 RX7 yX7_back wsX7_back) := goodIn_app (goodIn_of _ (by decide +kernel)) ggL_law_X7_back
set_option maxRecDepth 20000 in
theorem ggL_law_X6_count : GoodIn wsL_law wsX6_count := goodIn_r _ [830, 20, 39, 40, 34, 35, 16, 325, 326, 327, 19, 328, 62, 292, 167, 168, 38, 169, 77, 288, 289, 290, 291, 63, 645, 620, 621, 622, 33, 623, 308, 171, 172, 173, 15, 174, 45, 166, 835, 836, 837, 838, 839, 840, 841, 842, 843, 844, 875, 876, 877, 878, 879, 880, 887, 888, 885, 886, 873, 874] (by decide +kernel) (by decide +kernel)
set_option maxRecDepth 20000 in
theorem gL_law_X6_count : GoodIn wsL_law (wsV RL 132 RX6 yX6_count wsX6_count) := goodIn_app (goodIn_of _ (by decide +kernel)) ggL_law_X6_count
set_option maxRecDepth 20000 in
theorem ggL_law_X7_count : GoodIn wsL_law wsX7_count := goodIn_r _ [834, 132, 137, 141, 142, 136, 315, 316, 314, 313, 180, 845, 846, 847, 848, 849, 850, 851, 852, 853, 854, 855, 856, 857, 858, 859, 860, 861, 862, 863, 864, 865, 866, 867, 868, 869, 870, 871, 872] (by decide +kernel) (by decide +kernel)
set_option maxRecDepth 20000 in
theorem gL_law_X7_count : GoodIn wsL_law (wsV RL 135 RX7 yX7_count wsX7_count) := goodIn_app (goodIn_of _ (by decide +kernel)) ggL_law_X7_count
theorem dL_law_0 : decode cL_law 0 = .ok (.new 7, 3) := by decide +kernel
theorem dL_law_3 : decode cL_law 3 = .ok (.dup, 1) := by decide +kernel
theorem dL_law_4 : decode cL_law 4 = .ok (.invokespecial 9, 3) := by decide +kernel
theorem dL_law_7 : decode cL_law 7 = .ok (.astore_n 1, 1) := by decide +kernel
theorem dL_law_8 : decode cL_law 8 = .ok (.new 10, 3) := by decide +kernel
theorem dL_law_11 : decode cL_law 11 = .ok (.dup, 1) := by decide +kernel
theorem dL_law_12 : decode cL_law 12 = .ok (.invokespecial 12, 3) := by decide +kernel
theorem dL_law_15 : decode cL_law 15 = .ok (.astore_n 2, 1) := by decide +kernel
theorem dL_law_16 : decode cL_law 16 = .ok (.iconst 0, 1) := by decide +kernel
theorem dL_law_17 : decode cL_law 17 = .ok (.istore_n 3, 1) := by decide +kernel
theorem dL_law_18 : decode cL_law 18 = .ok (.iload_n 3, 1) := by decide +kernel
theorem dL_law_19 : decode cL_law 19 = .ok (.aload_n 0, 1) := by decide +kernel
theorem dL_law_20 : decode cL_law 20 = .ok (.arraylength, 1) := by decide +kernel
theorem dL_law_21 : decode cL_law 21 = .ok (.iconst 4, 1) := by decide +kernel
theorem dL_law_22 : decode cL_law 22 = .ok (.isub, 1) := by decide +kernel
theorem dL_law_23 : decode cL_law 23 = .ok (.if_icmp .gt 834, 3) := by decide +kernel
theorem dL_law_26 : decode cL_law 26 = .ok (.aload_n 0, 1) := by decide +kernel
theorem dL_law_27 : decode cL_law 27 = .ok (.iload_n 3, 1) := by decide +kernel
theorem dL_law_28 : decode cL_law 28 = .ok (.iaload, 1) := by decide +kernel
theorem dL_law_29 : decode cL_law 29 = .ok (.bipush 31, 2) := by decide +kernel
theorem dL_law_31 : decode cL_law 31 = .ok (.iand, 1) := by decide +kernel
theorem dL_law_32 : decode cL_law 32 = .ok (.tableswitch 819 0 28 #[132, 195, 208, 221, 234, 267, 300, 333, 356, 369, 392, 425, 448, 491, 504, 517, 540, 553, 576, 599, 612, 655, 698, 711, 734, 747, 770, 783, 796], 132) := by decide +kernel
theorem dL_law_164 : decode cL_law 164 = .ok (.aload_n 1, 1) := by decide +kernel
theorem dL_law_165 : decode cL_law 165 = .ok (.aload_n 0, 1) := by decide +kernel
theorem dL_law_166 : decode cL_law 166 = .ok (.iload_n 3, 1) := by decide +kernel
theorem dL_law_167 : decode cL_law 167 = .ok (.iconst 1, 1) := by decide +kernel
theorem dL_law_168 : decode cL_law 168 = .ok (.iadd, 1) := by decide +kernel
theorem dL_law_169 : decode cL_law 169 = .ok (.iaload, 1) := by decide +kernel
theorem dL_law_170 : decode cL_law 170 = .ok (.aload_n 0, 1) := by decide +kernel
theorem dL_law_171 : decode cL_law 171 = .ok (.iload_n 3, 1) := by decide +kernel
theorem dL_law_172 : decode cL_law 172 = .ok (.iconst 2, 1) := by decide +kernel
theorem dL_law_173 : decode cL_law 173 = .ok (.iadd, 1) := by decide +kernel
theorem dL_law_174 : decode cL_law 174 = .ok (.iaload, 1) := by decide +kernel
theorem dL_law_175 : decode cL_law 175 = .ok (.i2l, 1) := by decide +kernel
theorem dL_law_176 : decode cL_law 176 = .ok (.bipush 32, 2) := by decide +kernel
theorem dL_law_178 : decode cL_law 178 = .ok (.lshl, 1) := by decide +kernel
theorem dL_law_179 : decode cL_law 179 = .ok (.aload_n 0, 1) := by decide +kernel
theorem dL_law_180 : decode cL_law 180 = .ok (.iload_n 3, 1) := by decide +kernel
theorem dL_law_181 : decode cL_law 181 = .ok (.iconst 3, 1) := by decide +kernel
theorem dL_law_182 : decode cL_law 182 = .ok (.iadd, 1) := by decide +kernel
theorem dL_law_183 : decode cL_law 183 = .ok (.iaload, 1) := by decide +kernel
theorem dL_law_184 : decode cL_law 184 = .ok (.i2l, 1) := by decide +kernel
theorem dL_law_185 : decode cL_law 185 = .ok (.ldc2_w 13, 3) := by decide +kernel
theorem dL_law_188 : decode cL_law 188 = .ok (.land, 1) := by decide +kernel
theorem dL_law_189 : decode cL_law 189 = .ok (.lor, 1) := by decide +kernel
theorem dL_law_190 : decode cL_law 190 = .ok (.invokevirtual 15, 3) := by decide +kernel
theorem dL_law_193 : decode cL_law 193 = .ok (.aload_n 2, 1) := by decide +kernel
theorem dL_law_194 : decode cL_law 194 = .ok (.aload_n 0, 1) := by decide +kernel
theorem dL_law_195 : decode cL_law 195 = .ok (.iload_n 3, 1) := by decide +kernel
theorem dL_law_196 : decode cL_law 196 = .ok (.iconst 1, 1) := by decide +kernel
theorem dL_law_197 : decode cL_law 197 = .ok (.iadd, 1) := by decide +kernel
theorem dL_law_198 : decode cL_law 198 = .ok (.iaload, 1) := by decide +kernel
theorem dL_law_199 : decode cL_law 199 = .ok (.aload_n 0, 1) := by decide +kernel
theorem dL_law_200 : decode cL_law 200 = .ok (.iload_n 3, 1) := by decide +kernel
theorem dL_law_201 : decode cL_law 201 = .ok (.iconst 2, 1) := by decide +kernel
theorem dL_law_202 : decode cL_law 202 = .ok (.iadd, 1) := by decide +kernel
theorem dL_law_203 : decode cL_law 203 = .ok (.iaload, 1) := by decide +kernel
theorem dL_law_204 : decode cL_law 204 = .ok (.i2l, 1) := by decide +kernel
theorem dL_law_205 : decode cL_law 205 = .ok (.bipush 32, 2) := by decide +kernel
theorem dL_law_207 : decode cL_law 207 = .ok (.lshl, 1) := by decide +kernel
theorem dL_law_208 : decode cL_law 208 = .ok (.aload_n 0, 1) := by decide +kernel
theorem dL_law_209 : decode cL_law 209 = .ok (.iload_n 3, 1) := by decide +kernel
theorem dL_law_210 : decode cL_law 210 = .ok (.iconst 3, 1) := by decide +kernel
theorem dL_law_211 : decode cL_law 211 = .ok (.iadd, 1) := by decide +kernel
theorem dL_law_212 : decode cL_law 212 = .ok (.iaload, 1) := by decide +kernel
theorem dL_law_213 : decode cL_law 213 = .ok (.i2l, 1) := by decide +kernel
theorem dL_law_214 : decode cL_law 214 = .ok (.ldc2_w 13, 3) := by decide +kernel
theorem dL_law_217 : decode cL_law 217 = .ok (.land, 1) := by decide +kernel
theorem dL_law_218 : decode cL_law 218 = .ok (.lor, 1) := by decide +kernel
theorem dL_law_219 : decode cL_law 219 = .ok (.invokevirtual 19, 3) := by decide +kernel
theorem dL_law_222 : decode cL_law 222 = .ok (.if_icmp .eq 629, 3) := by decide +kernel
theorem dL_law_225 : decode cL_law 225 = .ok (.iconst 0, 1) := by decide +kernel
theorem dL_law_226 : decode cL_law 226 = .ok (.ireturn, 1) := by decide +kernel
theorem dL_law_227 : decode cL_law 227 = .ok (.aload_n 1, 1) := by decide +kernel
theorem dL_law_228 : decode cL_law 228 = .ok (.invokevirtual 20, 3) := by decide +kernel
theorem dL_law_231 : decode cL_law 231 = .ok (.aload_n 2, 1) := by decide +kernel
theorem dL_law_232 : decode cL_law 232 = .ok (.invokevirtual 24, 3) := by decide +kernel
theorem dL_law_235 : decode cL_law 235 = .ok (.if_icmp .eq 616, 3) := by decide +kernel
theorem dL_law_238 : decode cL_law 238 = .ok (.iconst 0, 1) := by decide +kernel
theorem dL_law_239 : decode cL_law 239 = .ok (.ireturn, 1) := by decide +kernel
theorem dL_law_240 : decode cL_law 240 = .ok (.aload_n 1, 1) := by decide +kernel
theorem dL_law_241 : decode cL_law 241 = .ok (.invokevirtual 25, 3) := by decide +kernel
theorem dL_law_244 : decode cL_law 244 = .ok (.aload_n 2, 1) := by decide +kernel
theorem dL_law_245 : decode cL_law 245 = .ok (.invokevirtual 28, 3) := by decide +kernel
theorem dL_law_248 : decode cL_law 248 = .ok (.if_icmp .eq 603, 3) := by decide +kernel
theorem dL_law_251 : decode cL_law 251 = .ok (.iconst 0, 1) := by decide +kernel
theorem dL_law_252 : decode cL_law 252 = .ok (.ireturn, 1) := by decide +kernel
theorem dL_law_253 : decode cL_law 253 = .ok (.aload_n 1, 1) := by decide +kernel
theorem dL_law_254 : decode cL_law 254 = .ok (.invokevirtual 29, 3) := by decide +kernel
theorem dL_law_257 : decode cL_law 257 = .ok (.aload_n 2, 1) := by decide +kernel
theorem dL_law_258 : decode cL_law 258 = .ok (.invokevirtual 32, 3) := by decide +kernel
theorem dL_law_261 : decode cL_law 261 = .ok (.if_icmp .eq 590, 3) := by decide +kernel
theorem dL_law_264 : decode cL_law 264 = .ok (.iconst 0, 1) := by decide +kernel
theorem dL_law_265 : decode cL_law 265 = .ok (.ireturn, 1) := by decide +kernel
theorem dL_law_266 : decode cL_law 266 = .ok (.aload_n 1, 1) := by decide +kernel
theorem dL_law_267 : decode cL_law 267 = .ok (.aload_n 0, 1) := by decide +kernel
theorem dL_law_268 : decode cL_law 268 = .ok (.iload_n 3, 1) := by decide +kernel
theorem dL_law_269 : decode cL_law 269 = .ok (.iconst 1, 1) := by decide +kernel
theorem dL_law_270 : decode cL_law 270 = .ok (.iadd, 1) := by decide +kernel
theorem dL_law_271 : decode cL_law 271 = .ok (.iaload, 1) := by decide +kernel
theorem dL_law_272 : decode cL_law 272 = .ok (.aload_n 0, 1) := by decide +kernel
theorem dL_law_273 : decode cL_law 273 = .ok (.iload_n 3, 1) := by decide +kernel
theorem dL_law_274 : decode cL_law 274 = .ok (.iconst 2, 1) := by decide +kernel
theorem dL_law_275 : decode cL_law 275 = .ok (.iadd, 1) := by decide +kernel
theorem dL_law_276 : decode cL_law 276 = .ok (.iaload, 1) := by decide +kernel
theorem dL_law_277 : decode cL_law 277 = .ok (.invokevirtual 33, 3) := by decide +kernel
theorem dL_law_280 : decode cL_law 280 = .ok (.aload_n 2, 1) := by decide +kernel
theorem dL_law_281 : decode cL_law 281 = .ok (.aload_n 0, 1) := by decide +kernel
theorem dL_law_282 : decode cL_law 282 = .ok (.iload_n 3, 1) := by decide +kernel
theorem dL_law_283 : decode cL_law 283 = .ok (.iconst 1, 1) := by decide +kernel
theorem dL_law_284 : decode cL_law 284 = .ok (.iadd, 1) := by decide +kernel
theorem dL_law_285 : decode cL_law 285 = .ok (.iaload, 1) := by decide +kernel
theorem dL_law_286 : decode cL_law 286 = .ok (.aload_n 0, 1) := by decide +kernel
theorem dL_law_287 : decode cL_law 287 = .ok (.iload_n 3, 1) := by decide +kernel
theorem dL_law_288 : decode cL_law 288 = .ok (.iconst 2, 1) := by decide +kernel
theorem dL_law_289 : decode cL_law 289 = .ok (.iadd, 1) := by decide +kernel
theorem dL_law_290 : decode cL_law 290 = .ok (.iaload, 1) := by decide +kernel
theorem dL_law_291 : decode cL_law 291 = .ok (.invokevirtual 37, 3) := by decide +kernel
theorem dL_law_294 : decode cL_law 294 = .ok (.if_icmp .eq 557, 3) := by decide +kernel
theorem dL_law_297 : decode cL_law 297 = .ok (.iconst 0, 1) := by decide +kernel
theorem dL_law_298 : decode cL_law 298 = .ok (.ireturn, 1) := by decide +kernel
theorem dL_law_299 : decode cL_law 299 = .ok (.aload_n 1, 1) := by decide +kernel
theorem dL_law_300 : decode cL_law 300 = .ok (.aload_n 0, 1) := by decide +kernel
theorem dL_law_301 : decode cL_law 301 = .ok (.iload_n 3, 1) := by decide +kernel
theorem dL_law_302 : decode cL_law 302 = .ok (.iconst 1, 1) := by decide +kernel
theorem dL_law_303 : decode cL_law 303 = .ok (.iadd, 1) := by decide +kernel
theorem dL_law_304 : decode cL_law 304 = .ok (.iaload, 1) := by decide +kernel
theorem dL_law_305 : decode cL_law 305 = .ok (.aload_n 0, 1) := by decide +kernel
theorem dL_law_306 : decode cL_law 306 = .ok (.iload_n 3, 1) := by decide +kernel
theorem dL_law_307 : decode cL_law 307 = .ok (.iconst 2, 1) := by decide +kernel
theorem dL_law_308 : decode cL_law 308 = .ok (.iadd, 1) := by decide +kernel
theorem dL_law_309 : decode cL_law 309 = .ok (.iaload, 1) := by decide +kernel
theorem dL_law_310 : decode cL_law 310 = .ok (.invokevirtual 38, 3) := by decide +kernel
theorem dL_law_313 : decode cL_law 313 = .ok (.aload_n 2, 1) := by decide +kernel
theorem dL_law_314 : decode cL_law 314 = .ok (.aload_n 0, 1) := by decide +kernel
theorem dL_law_315 : decode cL_law 315 = .ok (.iload_n 3, 1) := by decide +kernel
theorem dL_law_316 : decode cL_law 316 = .ok (.iconst 1, 1) := by decide +kernel
theorem dL_law_317 : decode cL_law 317 = .ok (.iadd, 1) := by decide +kernel
theorem dL_law_318 : decode cL_law 318 = .ok (.iaload, 1) := by decide +kernel
theorem dL_law_319 : decode cL_law 319 = .ok (.aload_n 0, 1) := by decide +kernel
theorem dL_law_320 : decode cL_law 320 = .ok (.iload_n 3, 1) := by decide +kernel
theorem dL_law_321 : decode cL_law 321 = .ok (.iconst 2, 1) := by decide +kernel
theorem dL_law_322 : decode cL_law 322 = .ok (.iadd, 1) := by decide +kernel
theorem dL_law_323 : decode cL_law 323 = .ok (.iaload, 1) := by decide +kernel
theorem dL_law_324 : decode cL_law 324 = .ok (.invokevirtual 41, 3) := by decide +kernel
theorem dL_law_327 : decode cL_law 327 = .ok (.if_icmp .eq 524, 3) := by decide +kernel
theorem dL_law_330 : decode cL_law 330 = .ok (.iconst 0, 1) := by decide +kernel
theorem dL_law_331 : decode cL_law 331 = .ok (.ireturn, 1) := by decide +kernel
theorem dL_law_332 : decode cL_law 332 = .ok (.aload_n 1, 1) := by decide +kernel
theorem dL_law_333 : decode cL_law 333 = .ok (.aload_n 0, 1) := by decide +kernel
theorem dL_law_334 : decode cL_law 334 = .ok (.iload_n 3, 1) := by decide +kernel
theorem dL_law_335 : decode cL_law 335 = .ok (.iconst 1, 1) := by decide +kernel
theorem dL_law_336 : decode cL_law 336 = .ok (.iadd, 1) := by decide +kernel
theorem dL_law_337 : decode cL_law 337 = .ok (.iaload, 1) := by decide +kernel
theorem dL_law_338 : decode cL_law 338 = .ok (.aload_n 0, 1) := by decide +kernel
theorem dL_law_339 : decode cL_law 339 = .ok (.iload_n 3, 1) := by decide +kernel
theorem dL_law_340 : decode cL_law 340 = .ok (.iconst 2, 1) := by decide +kernel
theorem dL_law_341 : decode cL_law 341 = .ok (.iadd, 1) := by decide +kernel
theorem dL_law_342 : decode cL_law 342 = .ok (.iaload, 1) := by decide +kernel
theorem dL_law_343 : decode cL_law 343 = .ok (.invokevirtual 42, 3) := by decide +kernel
theorem dL_law_346 : decode cL_law 346 = .ok (.aload_n 2, 1) := by decide +kernel
theorem dL_law_347 : decode cL_law 347 = .ok (.aload_n 0, 1) := by decide +kernel
theorem dL_law_348 : decode cL_law 348 = .ok (.iload_n 3, 1) := by decide +kernel
theorem dL_law_349 : decode cL_law 349 = .ok (.iconst 1, 1) := by decide +kernel
theorem dL_law_350 : decode cL_law 350 = .ok (.iadd, 1) := by decide +kernel
theorem dL_law_351 : decode cL_law 351 = .ok (.iaload, 1) := by decide +kernel
theorem dL_law_352 : decode cL_law 352 = .ok (.aload_n 0, 1) := by decide +kernel
theorem dL_law_353 : decode cL_law 353 = .ok (.iload_n 3, 1) := by decide +kernel
theorem dL_law_354 : decode cL_law 354 = .ok (.iconst 2, 1) := by decide +kernel
theorem dL_law_355 : decode cL_law 355 = .ok (.iadd, 1) := by decide +kernel
theorem dL_law_356 : decode cL_law 356 = .ok (.iaload, 1) := by decide +kernel
theorem dL_law_357 : decode cL_law 357 = .ok (.invokevirtual 45, 3) := by decide +kernel
theorem dL_law_360 : decode cL_law 360 = .ok (.if_icmp .eq 491, 3) := by decide +kernel
theorem dL_law_363 : decode cL_law 363 = .ok (.iconst 0, 1) := by decide +kernel
theorem dL_law_364 : decode cL_law 364 = .ok (.ireturn, 1) := by decide +kernel
theorem dL_law_365 : decode cL_law 365 = .ok (.aload_n 1, 1) := by decide +kernel
theorem dL_law_366 : decode cL_law 366 = .ok (.aload_n 0, 1) := by decide +kernel
theorem dL_law_367 : decode cL_law 367 = .ok (.iload_n 3, 1) := by decide +kernel
theorem dL_law_368 : decode cL_law 368 = .ok (.iconst 1, 1) := by decide +kernel
theorem dL_law_369 : decode cL_law 369 = .ok (.iadd, 1) := by decide +kernel
theorem dL_law_370 : decode cL_law 370 = .ok (.iaload, 1) := by decide +kernel
theorem dL_law_371 : decode cL_law 371 = .ok (.invokevirtual 46, 3) := by decide +kernel
theorem dL_law_374 : decode cL_law 374 = .ok (.aload_n 2, 1) := by decide +kernel
theorem dL_law_375 : decode cL_law 375 = .ok (.aload_n 0, 1) := by decide +kernel
theorem dL_law_376 : decode cL_law 376 = .ok (.iload_n 3, 1) := by decide +kernel
theorem dL_law_377 : decode cL_law 377 = .ok (.iconst 1, 1) := by decide +kernel
theorem dL_law_378 : decode cL_law 378 = .ok (.iadd, 1) := by decide +kernel
theorem dL_law_379 : decode cL_law 379 = .ok (.iaload, 1) := by decide +kernel
theorem dL_law_380 : decode cL_law 380 = .ok (.invokevirtual 50, 3) := by decide +kernel
theorem dL_law_383 : decode cL_law 383 = .ok (.if_icmp .eq 468, 3) := by decide +kernel
theorem dL_law_386 : decode cL_law 386 = .ok (.iconst 0, 1) := by decide +kernel
theorem dL_law_387 : decode cL_law 387 = .ok (.ireturn, 1) := by decide +kernel
theorem dL_law_388 : decode cL_law 388 = .ok (.aload_n 1, 1) := by decide +kernel
theorem dL_law_389 : decode cL_law 389 = .ok (.invokevirtual 51, 3) := by decide +kernel
theorem dL_law_392 : decode cL_law 392 = .ok (.aload_n 2, 1) := by decide +kernel
theorem dL_law_393 : decode cL_law 393 = .ok (.invokevirtual 54, 3) := by decide +kernel
theorem dL_law_396 : decode cL_law 396 = .ok (.if_icmp .eq 455, 3) := by decide +kernel
theorem dL_law_399 : decode cL_law 399 = .ok (.iconst 0, 1) := by decide +kernel
theorem dL_law_400 : decode cL_law 400 = .ok (.ireturn, 1) := by decide +kernel
theorem dL_law_401 : decode cL_law 401 = .ok (.aload_n 1, 1) := by decide +kernel
theorem dL_law_402 : decode cL_law 402 = .ok (.aload_n 0, 1) := by decide +kernel
theorem dL_law_403 : decode cL_law 403 = .ok (.iload_n 3, 1) := by decide +kernel
theorem dL_law_404 : decode cL_law 404 = .ok (.iconst 1, 1) := by decide +kernel
theorem dL_law_405 : decode cL_law 405 = .ok (.iadd, 1) := by decide +kernel
theorem dL_law_406 : decode cL_law 406 = .ok (.iaload, 1) := by decide +kernel
theorem dL_law_407 : decode cL_law 407 = .ok (.invokevirtual 55, 3) := by decide +kernel
theorem dL_law_410 : decode cL_law 410 = .ok (.aload_n 2, 1) := by decide +kernel
theorem dL_law_411 : decode cL_law 411 = .ok (.aload_n 0, 1) := by decide +kernel
theorem dL_law_412 : decode cL_law 412 = .ok (.iload_n 3, 1) := by decide +kernel
theorem dL_law_413 : decode cL_law 413 = .ok (.iconst 1, 1) := by decide +kernel
theorem dL_law_414 : decode cL_law 414 = .ok (.iadd, 1) := by decide +kernel
theorem dL_law_415 : decode cL_law 415 = .ok (.iaload, 1) := by decide +kernel
theorem dL_law_416 : decode cL_law 416 = .ok (.invokevirtual 58, 3) := by decide +kernel
theorem dL_law_419 : decode cL_law 419 = .ok (.if_icmp .eq 432, 3) := by decide +kernel
theorem dL_law_422 : decode cL_law 422 = .ok (.iconst 0, 1) := by decide +kernel
theorem dL_law_423 : decode cL_law 423 = .ok (.ireturn, 1) := by decide +kernel
theorem dL_law_424 : decode cL_law 424 = .ok (.aload_n 1, 1) := by decide +kernel
theorem dL_law_425 : decode cL_law 425 = .ok (.aload_n 0, 1) := by decide +kernel
theorem dL_law_426 : decode cL_law 426 = .ok (.iload_n 3, 1) := by decide +kernel
theorem dL_law_427 : decode cL_law 427 = .ok (.iconst 1, 1) := by decide +kernel
theorem dL_law_428 : decode cL_law 428 = .ok (.iadd, 1) := by decide +kernel
theorem dL_law_429 : decode cL_law 429 = .ok (.iaload, 1) := by decide +kernel
theorem dL_law_430 : decode cL_law 430 = .ok (.aload_n 0, 1) := by decide +kernel
theorem dL_law_431 : decode cL_law 431 = .ok (.iload_n 3, 1) := by decide +kernel
theorem dL_law_432 : decode cL_law 432 = .ok (.iconst 2, 1) := by decide +kernel
theorem dL_law_433 : decode cL_law 433 = .ok (.iadd, 1) := by decide +kernel
theorem dL_law_434 : decode cL_law 434 = .ok (.iaload, 1) := by decide +kernel
theorem dL_law_435 : decode cL_law 435 = .ok (.invokevirtual 59, 3) := by decide +kernel
theorem dL_law_438 : decode cL_law 438 = .ok (.aload_n 2, 1) := by decide +kernel
theorem dL_law_439 : decode cL_law 439 = .ok (.aload_n 0, 1) := by decide +kernel
theorem dL_law_440 : decode cL_law 440 = .ok (.iload_n 3, 1) := by decide +kernel
theorem dL_law_441 : decode cL_law 441 = .ok (.iconst 1, 1) := by decide +kernel
theorem dL_law_442 : decode cL_law 442 = .ok (.iadd, 1) := by decide +kernel
theorem dL_law_443 : decode cL_law 443 = .ok (.iaload, 1) := by decide +kernel
theorem dL_law_444 : decode cL_law 444 = .ok (.aload_n 0, 1) := by decide +kernel
theorem dL_law_445 : decode cL_law 445 = .ok (.iload_n 3, 1) := by decide +kernel
theorem dL_law_446 : decode cL_law 446 = .ok (.iconst 2, 1) := by decide +kernel
theorem dL_law_447 : decode cL_law 447 = .ok (.iadd, 1) := by decide +kernel
theorem dL_law_448 : decode cL_law 448 = .ok (.iaload, 1) := by decide +kernel
theorem dL_law_449 : decode cL_law 449 = .ok (.invokevirtual 62, 3) := by decide +kernel
theorem dL_law_452 : decode cL_law 452 = .ok (.if_icmp .eq 399, 3) := by decide +kernel
theorem dL_law_455 : decode cL_law 455 = .ok (.iconst 0, 1) := by decide +kernel
theorem dL_law_456 : decode cL_law 456 = .ok (.ireturn, 1) := by decide +kernel
theorem dL_law_457 : decode cL_law 457 = .ok (.aload_n 1, 1) := by decide +kernel
theorem dL_law_458 : decode cL_law 458 = .ok (.aload_n 0, 1) := by decide +kernel
theorem dL_law_459 : decode cL_law 459 = .ok (.iload_n 3, 1) := by decide +kernel
theorem dL_law_460 : decode cL_law 460 = .ok (.iconst 1, 1) := by decide +kernel
theorem dL_law_461 : decode cL_law 461 = .ok (.iadd, 1) := by decide +kernel
theorem dL_law_462 : decode cL_law 462 = .ok (.iaload, 1) := by decide +kernel
theorem dL_law_463 : decode cL_law 463 = .ok (.invokevirtual 63, 3) := by decide +kernel
theorem dL_law_466 : decode cL_law 466 = .ok (.aload_n 2, 1) := by decide +kernel
theorem dL_law_467 : decode cL_law 467 = .ok (.aload_n 0, 1) := by decide +kernel
theorem dL_law_468 : decode cL_law 468 = .ok (.iload_n 3, 1) := by decide +kernel
theorem dL_law_469 : decode cL_law 469 = .ok (.iconst 1, 1) := by decide +kernel
theorem dL_law_470 : decode cL_law 470 = .ok (.iadd, 1) := by decide +kernel
theorem dL_law_471 : decode cL_law 471 = .ok (.iaload, 1) := by decide +kernel
theorem dL_law_472 : decode cL_law 472 = .ok (.invokevirtual 66, 3) := by decide +kernel
theorem dL_law_475 : decode cL_law 475 = .ok (.if_icmp .eq 376, 3) := by decide +kernel
theorem dL_law_478 : decode cL_law 478 = .ok (.iconst 0, 1) := by decide +kernel
theorem dL_law_479 : decode cL_law 479 = .ok (.ireturn, 1) := by decide +kernel
theorem dL_law_480 : decode cL_law 480 = .ok (.aload_n 1, 1) := by decide +kernel
theorem dL_law_481 : decode cL_law 481 = .ok (.aload_n 0, 1) := by decide +kernel
theorem dL_law_482 : decode cL_law 482 = .ok (.iload_n 3, 1) := by decide +kernel
theorem dL_law_483 : decode cL_law 483 = .ok (.iconst 1, 1) := by decide +kernel
theorem dL_law_484 : decode cL_law 484 = .ok (.iadd, 1) := by decide +kernel
theorem dL_law_485 : decode cL_law 485 = .ok (.iaload, 1) := by decide +kernel
theorem dL_law_486 : decode cL_law 486 = .ok (.aload_n 0, 1) := by decide +kernel
theorem dL_law_487 : decode cL_law 487 = .ok (.iload_n 3, 1) := by decide +kernel
theorem dL_law_488 : decode cL_law 488 = .ok (.iconst 2, 1) := by decide +kernel
theorem dL_law_489 : decode cL_law 489 = .ok (.iadd, 1) := by decide +kernel
theorem dL_law_490 : decode cL_law 490 = .ok (.iaload, 1) := by decide +kernel
theorem dL_law_491 : decode cL_law 491 = .ok (.aload_n 0, 1) := by decide +kernel
theorem dL_law_492 : decode cL_law 492 = .ok (.iload_n 3, 1) := by decide +kernel
theorem dL_law_493 : decode cL_law 493 = .ok (.iconst 3, 1) := by decide +kernel
theorem dL_law_494 : decode cL_law 494 = .ok (.iadd, 1) := by decide +kernel
theorem dL_law_495 : decode cL_law 495 = .ok (.iaload, 1) := by decide +kernel
theorem dL_law_496 : decode cL_law 496 = .ok (.invokevirtual 67, 3) := by decide +kernel
theorem dL_law_499 : decode cL_law 499 = .ok (.aload_n 2, 1) := by decide +kernel
theorem dL_law_500 : decode cL_law 500 = .ok (.aload_n 0, 1) := by decide +kernel
theorem dL_law_501 : decode cL_law 501 = .ok (.iload_n 3, 1) := by decide +kernel
theorem dL_law_502 : decode cL_law 502 = .ok (.iconst 1, 1) := by decide +kernel
theorem dL_law_503 : decode cL_law 503 = .ok (.iadd, 1) := by decide +kernel
theorem dL_law_504 : decode cL_law 504 = .ok (.iaload, 1) := by decide +kernel
theorem dL_law_505 : decode cL_law 505 = .ok (.aload_n 0, 1) := by decide +kernel
theorem dL_law_506 : decode cL_law 506 = .ok (.iload_n 3, 1) := by decide +kernel
theorem dL_law_507 : decode cL_law 507 = .ok (.iconst 2, 1) := by decide +kernel
theorem dL_law_508 : decode cL_law 508 = .ok (.iadd, 1) := by decide +kernel
theorem dL_law_509 : decode cL_law 509 = .ok (.iaload, 1) := by decide +kernel
theorem dL_law_510 : decode cL_law 510 = .ok (.aload_n 0, 1) := by decide +kernel
theorem dL_law_511 : decode cL_law 511 = .ok (.iload_n 3, 1) := by decide +kernel
theorem dL_law_512 : decode cL_law 512 = .ok (.iconst 3, 1) := by decide +kernel
theorem dL_law_513 : decode cL_law 513 = .ok (.iadd, 1) := by decide +kernel
theorem dL_law_514 : decode cL_law 514 = .ok (.iaload, 1) := by decide +kernel
theorem dL_law_515 : decode cL_law 515 = .ok (.invokevirtual 71, 3) := by decide +kernel
theorem dL_law_518 : decode cL_law 518 = .ok (.if_icmp .eq 333, 3) := by decide +kernel
theorem dL_law_521 : decode cL_law 521 = .ok (.iconst 0, 1) := by decide +kernel
theorem dL_law_522 : decode cL_law 522 = .ok (.ireturn, 1) := by decide +kernel
theorem dL_law_523 : decode cL_law 523 = .ok (.aload_n 1, 1) := by decide +kernel
theorem dL_law_524 : decode cL_law 524 = .ok (.invokevirtual 72, 3) := by decide +kernel
theorem dL_law_527 : decode cL_law 527 = .ok (.aload_n 2, 1) := by decide +kernel
theorem dL_law_528 : decode cL_law 528 = .ok (.invokevirtual 75, 3) := by decide +kernel
theorem dL_law_531 : decode cL_law 531 = .ok (.if_icmp .eq 320, 3) := by decide +kernel
theorem dL_law_534 : decode cL_law 534 = .ok (.iconst 0, 1) := by decide +kernel
theorem dL_law_535 : decode cL_law 535 = .ok (.ireturn, 1) := by decide +kernel
theorem dL_law_536 : decode cL_law 536 = .ok (.aload_n 1, 1) := by decide +kernel
theorem dL_law_537 : decode cL_law 537 = .ok (.invokevirtual 76, 3) := by decide +kernel
theorem dL_law_540 : decode cL_law 540 = .ok (.aload_n 2, 1) := by decide +kernel
theorem dL_law_541 : decode cL_law 541 = .ok (.invokevirtual 79, 3) := by decide +kernel
theorem dL_law_544 : decode cL_law 544 = .ok (.if_icmp .eq 307, 3) := by decide +kernel
theorem dL_law_547 : decode cL_law 547 = .ok (.iconst 0, 1) := by decide +kernel
theorem dL_law_548 : decode cL_law 548 = .ok (.ireturn, 1) := by decide +kernel
theorem dL_law_549 : decode cL_law 549 = .ok (.aload_n 1, 1) := by decide +kernel
theorem dL_law_550 : decode cL_law 550 = .ok (.aload_n 0, 1) := by decide +kernel
theorem dL_law_551 : decode cL_law 551 = .ok (.iload_n 3, 1) := by decide +kernel
theorem dL_law_552 : decode cL_law 552 = .ok (.iconst 1, 1) := by decide +kernel
theorem dL_law_553 : decode cL_law 553 = .ok (.iadd, 1) := by decide +kernel
theorem dL_law_554 : decode cL_law 554 = .ok (.iaload, 1) := by decide +kernel
theorem dL_law_555 : decode cL_law 555 = .ok (.invokevirtual 80, 3) := by decide +kernel
theorem dL_law_558 : decode cL_law 558 = .ok (.aload_n 2, 1) := by decide +kernel
theorem dL_law_559 : decode cL_law 559 = .ok (.aload_n 0, 1) := by decide +kernel
theorem dL_law_560 : decode cL_law 560 = .ok (.iload_n 3, 1) := by decide +kernel
theorem dL_law_561 : decode cL_law 561 = .ok (.iconst 1, 1) := by decide +kernel
theorem dL_law_562 : decode cL_law 562 = .ok (.iadd, 1) := by decide +kernel
theorem dL_law_563 : decode cL_law 563 = .ok (.iaload, 1) := by decide +kernel
theorem dL_law_564 : decode cL_law 564 = .ok (.invokevirtual 83, 3) := by decide +kernel
theorem dL_law_567 : decode cL_law 567 = .ok (.if_icmp .eq 284, 3) := by decide +kernel
theorem dL_law_570 : decode cL_law 570 = .ok (.iconst 0, 1) := by decide +kernel
theorem dL_law_571 : decode cL_law 571 = .ok (.ireturn, 1) := by decide +kernel
theorem dL_law_572 : decode cL_law 572 = .ok (.aload_n 1, 1) := by decide +kernel
theorem dL_law_573 : decode cL_law 573 = .ok (.invokevirtual 84, 3) := by decide +kernel
theorem dL_law_576 : decode cL_law 576 = .ok (.aload_n 2, 1) := by decide +kernel
theorem dL_law_577 : decode cL_law 577 = .ok (.invokevirtual 87, 3) := by decide +kernel
theorem dL_law_580 : decode cL_law 580 = .ok (.if_icmp .eq 271, 3) := by decide +kernel
theorem dL_law_583 : decode cL_law 583 = .ok (.iconst 0, 1) := by decide +kernel
theorem dL_law_584 : decode cL_law 584 = .ok (.ireturn, 1) := by decide +kernel
theorem dL_law_585 : decode cL_law 585 = .ok (.aload_n 1, 1) := by decide +kernel
theorem dL_law_586 : decode cL_law 586 = .ok (.aload_n 0, 1) := by decide +kernel
theorem dL_law_587 : decode cL_law 587 = .ok (.iload_n 3, 1) := by decide +kernel
theorem dL_law_588 : decode cL_law 588 = .ok (.iconst 1, 1) := by decide +kernel
theorem dL_law_589 : decode cL_law 589 = .ok (.iadd, 1) := by decide +kernel
theorem dL_law_590 : decode cL_law 590 = .ok (.iaload, 1) := by decide +kernel
theorem dL_law_591 : decode cL_law 591 = .ok (.invokevirtual 88, 3) := by decide +kernel
theorem dL_law_594 : decode cL_law 594 = .ok (.aload_n 2, 1) := by decide +kernel
theorem dL_law_595 : decode cL_law 595 = .ok (.aload_n 0, 1) := by decide +kernel
theorem dL_law_596 : decode cL_law 596 = .ok (.iload_n 3, 1) := by decide +kernel
theorem dL_law_597 : decode cL_law 597 = .ok (.iconst 1, 1) := by decide +kernel
theorem dL_law_598 : decode cL_law 598 = .ok (.iadd, 1) := by decide +kernel
theorem dL_law_599 : decode cL_law 599 = .ok (.iaload, 1) := by decide +kernel
theorem dL_law_600 : decode cL_law 600 = .ok (.invokevirtual 91, 3) := by decide +kernel
theorem dL_law_603 : decode cL_law 603 = .ok (.if_icmp .eq 248, 3) := by decide +kernel
theorem dL_law_606 : decode cL_law 606 = .ok (.iconst 0, 1) := by decide +kernel
theorem dL_law_607 : decode cL_law 607 = .ok (.ireturn, 1) := by decide +kernel
theorem dL_law_608 : decode cL_law 608 = .ok (.aload_n 1, 1) := by decide +kernel
theorem dL_law_609 : decode cL_law 609 = .ok (.aload_n 0, 1) := by decide +kernel
theorem dL_law_610 : decode cL_law 610 = .ok (.iload_n 3, 1) := by decide +kernel
theorem dL_law_611 : decode cL_law 611 = .ok (.iconst 1, 1) := by decide +kernel
theorem dL_law_612 : decode cL_law 612 = .ok (.iadd, 1) := by decide +kernel
theorem dL_law_613 : decode cL_law 613 = .ok (.iaload, 1) := by decide +kernel
theorem dL_law_614 : decode cL_law 614 = .ok (.invokevirtual 92, 3) := by decide +kernel
theorem dL_law_617 : decode cL_law 617 = .ok (.aload_n 2, 1) := by decide +kernel
theorem dL_law_618 : decode cL_law 618 = .ok (.aload_n 0, 1) := by decide +kernel
theorem dL_law_619 : decode cL_law 619 = .ok (.iload_n 3, 1) := by decide +kernel
theorem dL_law_620 : decode cL_law 620 = .ok (.iconst 1, 1) := by decide +kernel
theorem dL_law_621 : decode cL_law 621 = .ok (.iadd, 1) := by decide +kernel
theorem dL_law_622 : decode cL_law 622 = .ok (.iaload, 1) := by decide +kernel
theorem dL_law_623 : decode cL_law 623 = .ok (.invokevirtual 95, 3) := by decide +kernel
theorem dL_law_626 : decode cL_law 626 = .ok (.if_icmp .eq 225, 3) := by decide +kernel
theorem dL_law_629 : decode cL_law 629 = .ok (.iconst 0, 1) := by decide +kernel
theorem dL_law_630 : decode cL_law 630 = .ok (.ireturn, 1) := by decide +kernel
theorem dL_law_631 : decode cL_law 631 = .ok (.aload_n 1, 1) := by decide +kernel
theorem dL_law_632 : decode cL_law 632 = .ok (.invokevirtual 96, 3) := by decide +kernel
theorem dL_law_635 : decode cL_law 635 = .ok (.aload_n 2, 1) := by decide +kernel
theorem dL_law_636 : decode cL_law 636 = .ok (.invokevirtual 99, 3) := by decide +kernel
theorem dL_law_639 : decode cL_law 639 = .ok (.if_icmp .eq 212, 3) := by decide +kernel
theorem dL_law_642 : decode cL_law 642 = .ok (.iconst 0, 1) := by decide +kernel
theorem dL_law_643 : decode cL_law 643 = .ok (.ireturn, 1) := by decide +kernel
theorem dL_law_644 : decode cL_law 644 = .ok (.aload_n 1, 1) := by decide +kernel
theorem dL_law_645 : decode cL_law 645 = .ok (.aload_n 0, 1) := by decide +kernel
theorem dL_law_646 : decode cL_law 646 = .ok (.iload_n 3, 1) := by decide +kernel
theorem dL_law_647 : decode cL_law 647 = .ok (.iconst 1, 1) := by decide +kernel
theorem dL_law_648 : decode cL_law 648 = .ok (.iadd, 1) := by decide +kernel
theorem dL_law_649 : decode cL_law 649 = .ok (.iaload, 1) := by decide +kernel
theorem dL_law_650 : decode cL_law 650 = .ok (.aload_n 0, 1) := by decide +kernel
theorem dL_law_651 : decode cL_law 651 = .ok (.iload_n 3, 1) := by decide +kernel
theorem dL_law_652 : decode cL_law 652 = .ok (.iconst 2, 1) := by decide +kernel
theorem dL_law_653 : decode cL_law 653 = .ok (.iadd, 1) := by decide +kernel
theorem dL_law_654 : decode cL_law 654 = .ok (.iaload, 1) := by decide +kernel
theorem dL_law_655 : decode cL_law 655 = .ok (.aload_n 0, 1) := by decide +kernel
theorem dL_law_656 : decode cL_law 656 = .ok (.iload_n 3, 1) := by decide +kernel
theorem dL_law_657 : decode cL_law 657 = .ok (.iconst 3, 1) := by decide +kernel
theorem dL_law_658 : decode cL_law 658 = .ok (.iadd, 1) := by decide +kernel
theorem dL_law_659 : decode cL_law 659 = .ok (.iaload, 1) := by decide +kernel
theorem dL_law_660 : decode cL_law 660 = .ok (.invokevirtual 100, 3) := by decide +kernel
theorem dL_law_663 : decode cL_law 663 = .ok (.aload_n 2, 1) := by decide +kernel
theorem dL_law_664 : decode cL_law 664 = .ok (.aload_n 0, 1) := by decide +kernel
theorem dL_law_665 : decode cL_law 665 = .ok (.iload_n 3, 1) := by decide +kernel
theorem dL_law_666 : decode cL_law 666 = .ok (.iconst 1, 1) := by decide +kernel
theorem dL_law_667 : decode cL_law 667 = .ok (.iadd, 1) := by decide +kernel
theorem dL_law_668 : decode cL_law 668 = .ok (.iaload, 1) := by decide +kernel
theorem dL_law_669 : decode cL_law 669 = .ok (.aload_n 0, 1) := by decide +kernel
theorem dL_law_670 : decode cL_law 670 = .ok (.iload_n 3, 1) := by decide +kernel
theorem dL_law_671 : decode cL_law 671 = .ok (.iconst 2, 1) := by decide +kernel
theorem dL_law_672 : decode cL_law 672 = .ok (.iadd, 1) := by decide +kernel
theorem dL_law_673 : decode cL_law 673 = .ok (.iaload, 1) := by decide +kernel
theorem dL_law_674 : decode cL_law 674 = .ok (.aload_n 0, 1) := by decide +kernel
theorem dL_law_675 : decode cL_law 675 = .ok (.iload_n 3, 1) := by decide +kernel
theorem dL_law_676 : decode cL_law 676 = .ok (.iconst 3, 1) := by decide +kernel
theorem dL_law_677 : decode cL_law 677 = .ok (.iadd, 1) := by decide +kernel
theorem dL_law_678 : decode cL_law 678 = .ok (.iaload, 1) := by decide +kernel
theorem dL_law_679 : decode cL_law 679 = .ok (.invokevirtual 103, 3) := by decide +kernel
theorem dL_law_682 : decode cL_law 682 = .ok (.if_icmp .eq 169, 3) := by decide +kernel
theorem dL_law_685 : decode cL_law 685 = .ok (.iconst 0, 1) := by decide +kernel
theorem dL_law_686 : decode cL_law 686 = .ok (.ireturn, 1) := by decide +kernel
theorem dL_law_687 : decode cL_law 687 = .ok (.aload_n 1, 1) := by decide +kernel
theorem dL_law_688 : decode cL_law 688 = .ok (.aload_n 0, 1) := by decide +kernel
theorem dL_law_689 : decode cL_law 689 = .ok (.iload_n 3, 1) := by decide +kernel
theorem dL_law_690 : decode cL_law 690 = .ok (.iconst 1, 1) := by decide +kernel
theorem dL_law_691 : decode cL_law 691 = .ok (.iadd, 1) := by decide +kernel
theorem dL_law_692 : decode cL_law 692 = .ok (.iaload, 1) := by decide +kernel
theorem dL_law_693 : decode cL_law 693 = .ok (.aload_n 0, 1) := by decide +kernel
theorem dL_law_694 : decode cL_law 694 = .ok (.iload_n 3, 1) := by decide +kernel
theorem dL_law_695 : decode cL_law 695 = .ok (.iconst 2, 1) := by decide +kernel
theorem dL_law_696 : decode cL_law 696 = .ok (.iadd, 1) := by decide +kernel
theorem dL_law_697 : decode cL_law 697 = .ok (.iaload, 1) := by decide +kernel
theorem dL_law_698 : decode cL_law 698 = .ok (.aload_n 0, 1) := by decide +kernel
theorem dL_law_699 : decode cL_law 699 = .ok (.iload_n 3, 1) := by decide +kernel
theorem dL_law_700 : decode cL_law 700 = .ok (.iconst 3, 1) := by decide +kernel
theorem dL_law_701 : decode cL_law 701 = .ok (.iadd, 1) := by decide +kernel
theorem dL_law_702 : decode cL_law 702 = .ok (.iaload, 1) := by decide +kernel
theorem dL_law_703 : decode cL_law 703 = .ok (.invokevirtual 104, 3) := by decide +kernel
theorem dL_law_706 : decode cL_law 706 = .ok (.aload_n 2, 1) := by decide +kernel
theorem dL_law_707 : decode cL_law 707 = .ok (.aload_n 0, 1) := by decide +kernel
theorem dL_law_708 : decode cL_law 708 = .ok (.iload_n 3, 1) := by decide +kernel
theorem dL_law_709 : decode cL_law 709 = .ok (.iconst 1, 1) := by decide +kernel
theorem dL_law_710 : decode cL_law 710 = .ok (.iadd, 1) := by decide +kernel
theorem dL_law_711 : decode cL_law 711 = .ok (.iaload, 1) := by decide +kernel
theorem dL_law_712 : decode cL_law 712 = .ok (.aload_n 0, 1) := by decide +kernel
theorem dL_law_713 : decode cL_law 713 = .ok (.iload_n 3, 1) := by decide +kernel
theorem dL_law_714 : decode cL_law 714 = .ok (.iconst 2, 1) := by decide +kernel
theorem dL_law_715 : decode cL_law 715 = .ok (.iadd, 1) := by decide +kernel
theorem dL_law_716 : decode cL_law 716 = .ok (.iaload, 1) := by decide +kernel
theorem dL_law_717 : decode cL_law 717 = .ok (.aload_n 0, 1) := by decide +kernel
theorem dL_law_718 : decode cL_law 718 = .ok (.iload_n 3, 1) := by decide +kernel
theorem dL_law_719 : decode cL_law 719 = .ok (.iconst 3, 1) := by decide +kernel
theorem dL_law_720 : decode cL_law 720 = .ok (.iadd, 1) := by decide +kernel
theorem dL_law_721 : decode cL_law 721 = .ok (.iaload, 1) := by decide +kernel
theorem dL_law_722 : decode cL_law 722 = .ok (.invokevirtual 107, 3) := by decide +kernel
theorem dL_law_725 : decode cL_law 725 = .ok (.if_icmp .eq 126, 3) := by decide +kernel
theorem dL_law_728 : decode cL_law 728 = .ok (.iconst 0, 1) := by decide +kernel
theorem dL_law_729 : decode cL_law 729 = .ok (.ireturn, 1) := by decide +kernel
theorem dL_law_730 : decode cL_law 730 = .ok (.aload_n 1, 1) := by decide +kernel
theorem dL_law_731 : decode cL_law 731 = .ok (.invokevirtual 108, 3) := by decide +kernel
theorem dL_law_734 : decode cL_law 734 = .ok (.aload_n 2, 1) := by decide +kernel
theorem dL_law_735 : decode cL_law 735 = .ok (.invokevirtual 111, 3) := by decide +kernel
theorem dL_law_738 : decode cL_law 738 = .ok (.if_icmp .eq 113, 3) := by decide +kernel
theorem dL_law_741 : decode cL_law 741 = .ok (.iconst 0, 1) := by decide +kernel
theorem dL_law_742 : decode cL_law 742 = .ok (.ireturn, 1) := by decide +kernel
theorem dL_law_743 : decode cL_law 743 = .ok (.aload_n 1, 1) := by decide +kernel
theorem dL_law_744 : decode cL_law 744 = .ok (.aload_n 0, 1) := by decide +kernel
theorem dL_law_745 : decode cL_law 745 = .ok (.iload_n 3, 1) := by decide +kernel
theorem dL_law_746 : decode cL_law 746 = .ok (.iconst 1, 1) := by decide +kernel
theorem dL_law_747 : decode cL_law 747 = .ok (.iadd, 1) := by decide +kernel
theorem dL_law_748 : decode cL_law 748 = .ok (.iaload, 1) := by decide +kernel
theorem dL_law_749 : decode cL_law 749 = .ok (.invokevirtual 112, 3) := by decide +kernel
theorem dL_law_752 : decode cL_law 752 = .ok (.aload_n 2, 1) := by decide +kernel
theorem dL_law_753 : decode cL_law 753 = .ok (.aload_n 0, 1) := by decide +kernel
theorem dL_law_754 : decode cL_law 754 = .ok (.iload_n 3, 1) := by decide +kernel
theorem dL_law_755 : decode cL_law 755 = .ok (.iconst 1, 1) := by decide +kernel
theorem dL_law_756 : decode cL_law 756 = .ok (.iadd, 1) := by decide +kernel
theorem dL_law_757 : decode cL_law 757 = .ok (.iaload, 1) := by decide +kernel
theorem dL_law_758 : decode cL_law 758 = .ok (.invokevirtual 115, 3) := by decide +kernel
theorem dL_law_761 : decode cL_law 761 = .ok (.if_icmp .eq 90, 3) := by decide +kernel
theorem dL_law_764 : decode cL_law 764 = .ok (.iconst 0, 1) := by decide +kernel
theorem dL_law_765 : decode cL_law 765 = .ok (.ireturn, 1) := by decide +kernel
theorem dL_law_766 : decode cL_law 766 = .ok (.aload_n 1, 1) := by decide +kernel
theorem dL_law_767 : decode cL_law 767 = .ok (.invokevirtual 116, 3) := by decide +kernel
theorem dL_law_770 : decode cL_law 770 = .ok (.aload_n 2, 1) := by decide +kernel
theorem dL_law_771 : decode cL_law 771 = .ok (.invokevirtual 119, 3) := by decide +kernel
theorem dL_law_774 : decode cL_law 774 = .ok (.if_icmp .eq 77, 3) := by decide +kernel
theorem dL_law_777 : decode cL_law 777 = .ok (.iconst 0, 1) := by decide +kernel
theorem dL_law_778 : decode cL_law 778 = .ok (.ireturn, 1) := by decide +kernel
theorem dL_law_779 : decode cL_law 779 = .ok (.aload_n 1, 1) := by decide +kernel
theorem dL_law_780 : decode cL_law 780 = .ok (.aload_n 0, 1) := by decide +kernel
theorem dL_law_781 : decode cL_law 781 = .ok (.iload_n 3, 1) := by decide +kernel
theorem dL_law_782 : decode cL_law 782 = .ok (.iconst 1, 1) := by decide +kernel
theorem dL_law_783 : decode cL_law 783 = .ok (.iadd, 1) := by decide +kernel
theorem dL_law_784 : decode cL_law 784 = .ok (.iaload, 1) := by decide +kernel
theorem dL_law_785 : decode cL_law 785 = .ok (.invokevirtual 120, 3) := by decide +kernel
theorem dL_law_788 : decode cL_law 788 = .ok (.aload_n 2, 1) := by decide +kernel
theorem dL_law_789 : decode cL_law 789 = .ok (.aload_n 0, 1) := by decide +kernel
theorem dL_law_790 : decode cL_law 790 = .ok (.iload_n 3, 1) := by decide +kernel
theorem dL_law_791 : decode cL_law 791 = .ok (.iconst 1, 1) := by decide +kernel
theorem dL_law_792 : decode cL_law 792 = .ok (.iadd, 1) := by decide +kernel
theorem dL_law_793 : decode cL_law 793 = .ok (.iaload, 1) := by decide +kernel
theorem dL_law_794 : decode cL_law 794 = .ok (.invokevirtual 123, 3) := by decide +kernel
theorem dL_law_797 : decode cL_law 797 = .ok (.if_icmp .eq 54, 3) := by decide +kernel
theorem dL_law_800 : decode cL_law 800 = .ok (.iconst 0, 1) := by decide +kernel
theorem dL_law_801 : decode cL_law 801 = .ok (.ireturn, 1) := by decide +kernel
theorem dL_law_802 : decode cL_law 802 = .ok (.aload_n 1, 1) := by decide +kernel
theorem dL_law_803 : decode cL_law 803 = .ok (.invokevirtual 124, 3) := by decide +kernel
theorem dL_law_806 : decode cL_law 806 = .ok (.aload_n 2, 1) := by decide +kernel
theorem dL_law_807 : decode cL_law 807 = .ok (.invokevirtual 127, 3) := by decide +kernel
theorem dL_law_810 : decode cL_law 810 = .ok (.if_icmp .eq 41, 3) := by decide +kernel
theorem dL_law_813 : decode cL_law 813 = .ok (.iconst 0, 1) := by decide +kernel
theorem dL_law_814 : decode cL_law 814 = .ok (.ireturn, 1) := by decide +kernel
theorem dL_law_815 : decode cL_law 815 = .ok (.aload_n 1, 1) := by decide +kernel
theorem dL_law_816 : decode cL_law 816 = .ok (.invokevirtual 128, 3) := by decide +kernel
theorem dL_law_819 : decode cL_law 819 = .ok (.aload_n 2, 1) := by decide +kernel
theorem dL_law_820 : decode cL_law 820 = .ok (.invokevirtual 131, 3) := by decide +kernel
theorem dL_law_823 : decode cL_law 823 = .ok (.if_icmp .eq 28, 3) := by decide +kernel
theorem dL_law_826 : decode cL_law 826 = .ok (.iconst 0, 1) := by decide +kernel
theorem dL_law_827 : decode cL_law 827 = .ok (.ireturn, 1) := by decide +kernel
theorem dL_law_828 : decode cL_law 828 = .ok (.aload_n 1, 1) := by decide +kernel
theorem dL_law_829 : decode cL_law 829 = .ok (.aload_n 0, 1) := by decide +kernel
theorem dL_law_830 : decode cL_law 830 = .ok (.iload_n 3, 1) := by decide +kernel
theorem dL_law_831 : decode cL_law 831 = .ok (.iconst 1, 1) := by decide +kernel
theorem dL_law_832 : decode cL_law 832 = .ok (.iadd, 1) := by decide +kernel
theorem dL_law_833 : decode cL_law 833 = .ok (.iaload, 1) := by decide +kernel
theorem dL_law_834 : decode cL_law 834 = .ok (.invokevirtual 132, 3) := by decide +kernel
theorem dL_law_837 : decode cL_law 837 = .ok (.aload_n 2, 1) := by decide +kernel
theorem dL_law_838 : decode cL_law 838 = .ok (.aload_n 0, 1) := by decide +kernel
theorem dL_law_839 : decode cL_law 839 = .ok (.iload_n 3, 1) := by decide +kernel
theorem dL_law_840 : decode cL_law 840 = .ok (.iconst 1, 1) := by decide +kernel
theorem dL_law_841 : decode cL_law 841 = .ok (.iadd, 1) := by decide +kernel
theorem dL_law_842 : decode cL_law 842 = .ok (.iaload, 1) := by decide +kernel
theorem dL_law_843 : decode cL_law 843 = .ok (.invokevirtual 135, 3) := by decide +kernel
theorem dL_law_846 : decode cL_law 846 = .ok (.if_icmp .eq 5, 3) := by decide +kernel
theorem dL_law_849 : decode cL_law 849 = .ok (.iconst 0, 1) := by decide +kernel
theorem dL_law_850 : decode cL_law 850 = .ok (.ireturn, 1) := by decide +kernel
theorem dL_law_851 : decode cL_law 851 = .ok (.iinc 3 4, 3) := by decide +kernel
theorem dL_law_854 : decode cL_law 854 = .ok (.goto (-836), 3) := by decide +kernel
theorem dL_law_857 : decode cL_law 857 = .ok (.iconst 1, 1) := by decide +kernel
theorem dL_law_858 : decode cL_law 858 = .ok (.ireturn, 1) := by decide +kernel
abbrev vwCl : List vw_C := [(RX0, TX0, 6), (RX1, TX1, 2), (RX2, TX2, 2), (RX3, TX3, 2), (RX4, TX4, 2), (RX5, TX5, 2), (RX6, TX6, 10), (RX7, TX7, 28)]

