theorem dL_plate_43 : decode cL_plate 43 = .ok (.istore 6, 2) := by decide +kernel
theorem dL_plate_45 : decode cL_plate 45 = .ok (.aload_n 0, 1) := by decide +kernel
theorem dL_plate_46 : decode cL_plate 46 = .ok (.iload 4, 2) := by decide +kernel
theorem dL_plate_48 : decode cL_plate 48 = .ok (.iload 5, 2) := by decide +kernel
theorem dL_plate_50 : decode cL_plate 50 = .ok (.invokevirtual 65, 3) := by decide +kernel
theorem dL_plate_53 : decode cL_plate 53 = .ok (.iload_n 3, 1) := by decide +kernel
theorem dL_plate_54 : decode cL_plate 54 = .ok (.if_icmp .ne 53, 3) := by decide +kernel
theorem dL_plate_57 : decode cL_plate 57 = .ok (.aload_n 0, 1) := by decide +kernel
theorem dL_plate_58 : decode cL_plate 58 = .ok (.iconst 5, 1) := by decide +kernel
theorem dL_plate_59 : decode cL_plate 59 = .ok (.invokevirtual 13, 3) := by decide +kernel
theorem dL_plate_62 : decode cL_plate 62 = .ok (.ifCond .ne 45, 3) := by decide +kernel
theorem dL_plate_65 : decode cL_plate 65 = .ok (.aload_n 0, 1) := by decide +kernel
theorem dL_plate_66 : decode cL_plate 66 = .ok (.bipush 8, 2) := by decide +kernel
theorem dL_plate_68 : decode cL_plate 68 = .ok (.invokevirtual 13, 3) := by decide +kernel
theorem dL_plate_71 : decode cL_plate 71 = .ok (.iload 6, 2) := by decide +kernel
theorem dL_plate_73 : decode cL_plate 73 = .ok (.iload_n 3, 1) := by decide +kernel
theorem dL_plate_74 : decode cL_plate 74 = .ok (.iadd, 1) := by decide +kernel
theorem dL_plate_75 : decode cL_plate 75 = .ok (.if_icmp .ne 32, 3) := by decide +kernel
theorem dL_plate_78 : decode cL_plate 78 = .ok (.aload_n 0, 1) := by decide +kernel
theorem dL_plate_79 : decode cL_plate 79 = .ok (.iconst 0, 1) := by decide +kernel
theorem dL_plate_80 : decode cL_plate 80 = .ok (.invokevirtual 13, 3) := by decide +kernel
theorem dL_plate_83 : decode cL_plate 83 = .ok (.iload 4, 2) := by decide +kernel
theorem dL_plate_85 : decode cL_plate 85 = .ok (.if_icmp .ne 22, 3) := by decide +kernel
theorem dL_plate_88 : decode cL_plate 88 = .ok (.aload_n 0, 1) := by decide +kernel
theorem dL_plate_89 : decode cL_plate 89 = .ok (.sipush 299, 3) := by decide +kernel
theorem dL_plate_92 : decode cL_plate 92 = .ok (.bipush 100, 2) := by decide +kernel
theorem dL_plate_94 : decode cL_plate 94 = .ok (.invokevirtual 65, 3) := by decide +kernel
theorem dL_plate_97 : decode cL_plate 97 = .ok (.sipush (-1002), 3) := by decide +kernel
theorem dL_plate_100 : decode cL_plate 100 = .ok (.if_icmp .ne 7, 3) := by decide +kernel
theorem dL_plate_103 : decode cL_plate 103 = .ok (.iconst 1, 1) := by decide +kernel
theorem dL_plate_104 : decode cL_plate 104 = .ok (.goto 4, 3) := by decide +kernel
theorem dL_plate_107 : decode cL_plate 107 = .ok (.iconst 0, 1) := by decide +kernel
theorem dL_plate_108 : decode cL_plate 108 = .ok (.ireturn, 1) := by decide +kernel
theorem dL_plate_109 : decode cL_plate 109 = .ok (.iload_n 1, 1) := by decide +kernel
theorem dL_plate_110 : decode cL_plate 110 = .ok (.iconst 1, 1) := by decide +kernel
theorem dL_plate_111 : decode cL_plate 111 = .ok (.if_icmp .ne 70, 3) := by decide +kernel
theorem dL_plate_114 : decode cL_plate 114 = .ok (.aload_n 0, 1) := by decide +kernel
theorem dL_plate_115 : decode cL_plate 115 = .ok (.iconst 2, 1) := by decide +kernel
theorem dL_plate_116 : decode cL_plate 116 = .ok (.invokevirtual 13, 3) := by decide +kernel
theorem dL_plate_119 : decode cL_plate 119 = .ok (.istore 4, 2) := by decide +kernel
theorem dL_plate_121 : decode cL_plate 121 = .ok (.iload_n 2, 1) := by decide +kernel
theorem dL_plate_122 : decode cL_plate 122 = .ok (.bipush 101, 2) := by decide +kernel
theorem dL_plate_124 : decode cL_plate 124 = .ok (.invokestatic 59, 3) := by decide +kernel
theorem dL_plate_127 : decode cL_plate 127 = .ok (.istore 5, 2) := by decide +kernel
theorem dL_plate_129 : decode cL_plate 129 = .ok (.aload_n 0, 1) := by decide +kernel
theorem dL_plate_130 : decode cL_plate 130 = .ok (.iload 5, 2) := by decide +kernel
theorem dL_plate_132 : decode cL_plate 132 = .ok (.invokevirtual 68, 3) := by decide +kernel
theorem dL_plate_135 : decode cL_plate 135 = .ok (.iload_n 3, 1) := by decide +kernel
theorem dL_plate_136 : decode cL_plate 136 = .ok (.ifCond .le 9, 3) := by decide +kernel
theorem dL_plate_139 : decode cL_plate 139 = .ok (.sipush (-1004), 3) := by decide +kernel
theorem dL_plate_142 : decode cL_plate 142 = .ok (.goto 18, 3) := by decide +kernel
theorem dL_plate_145 : decode cL_plate 145 = .ok (.iload 4, 2) := by decide +kernel
theorem dL_plate_147 : decode cL_plate 147 = .ok (.iload 5, 2) := by decide +kernel
theorem dL_plate_149 : decode cL_plate 149 = .ok (.if_icmp .ne 9, 3) := by decide +kernel
theorem dL_plate_152 : decode cL_plate 152 = .ok (.sipush (-1005), 3) := by decide +kernel
theorem dL_plate_155 : decode cL_plate 155 = .ok (.goto 5, 3) := by decide +kernel
theorem dL_plate_158 : decode cL_plate 158 = .ok (.iload 4, 2) := by decide +kernel
theorem dL_plate_160 : decode cL_plate 160 = .ok (.if_icmp .ne 19, 3) := by decide +kernel
theorem dL_plate_163 : decode cL_plate 163 = .ok (.aload_n 0, 1) := by decide +kernel
theorem dL_plate_164 : decode cL_plate 164 = .ok (.bipush 101, 2) := by decide +kernel
theorem dL_plate_166 : decode cL_plate 166 = .ok (.invokevirtual 68, 3) := by decide +kernel
theorem dL_plate_169 : decode cL_plate 169 = .ok (.sipush (-1002), 3) := by decide +kernel
theorem dL_plate_172 : decode cL_plate 172 = .ok (.if_icmp .ne 7, 3) := by decide +kernel
theorem dL_plate_175 : decode cL_plate 175 = .ok (.iconst 1, 1) := by decide +kernel
theorem dL_plate_176 : decode cL_plate 176 = .ok (.goto 4, 3) := by decide +kernel
theorem dL_plate_179 : decode cL_plate 179 = .ok (.iconst 0, 1) := by decide +kernel
theorem dL_plate_180 : decode cL_plate 180 = .ok (.ireturn, 1) := by decide +kernel
theorem dL_plate_181 : decode cL_plate 181 = .ok (.aload_n 0, 1) := by decide +kernel
theorem dL_plate_182 : decode cL_plate 182 = .ok (.iconst 3, 1) := by decide +kernel
theorem dL_plate_183 : decode cL_plate 183 = .ok (.invokevirtual 13, 3) := by decide +kernel
theorem dL_plate_186 : decode cL_plate 186 = .ok (.istore 4, 2) := by decide +kernel
theorem dL_plate_188 : decode cL_plate 188 = .ok (.iconst 1, 1) := by decide +kernel
theorem dL_plate_189 : decode cL_plate 189 = .ok (.iload_n 2, 1) := by decide +kernel
theorem dL_plate_190 : decode cL_plate 190 = .ok (.iconst 3, 1) := by decide +kernel
theorem dL_plate_191 : decode cL_plate 191 = .ok (.invokestatic 59, 3) := by decide +kernel
theorem dL_plate_194 : decode cL_plate 194 = .ok (.iadd, 1) := by decide +kernel
theorem dL_plate_195 : decode cL_plate 195 = .ok (.istore 5, 2) := by decide +kernel
theorem dL_plate_197 : decode cL_plate 197 = .ok (.aload_n 0, 1) := by decide +kernel
theorem dL_plate_198 : decode cL_plate 198 = .ok (.iload 5, 2) := by decide +kernel
theorem dL_plate_200 : decode cL_plate 200 = .ok (.invokevirtual 71, 3) := by decide +kernel
theorem dL_plate_203 : decode cL_plate 203 = .ok (.iload_n 3, 1) := by decide +kernel
theorem dL_plate_204 : decode cL_plate 204 = .ok (.ifCond .le 9, 3) := by decide +kernel
theorem dL_plate_207 : decode cL_plate 207 = .ok (.sipush (-1004), 3) := by decide +kernel
theorem dL_plate_210 : decode cL_plate 210 = .ok (.goto 18, 3) := by decide +kernel
theorem dL_plate_213 : decode cL_plate 213 = .ok (.iload 4, 2) := by decide +kernel
theorem dL_plate_215 : decode cL_plate 215 = .ok (.iload 5, 2) := by decide +kernel
theorem dL_plate_217 : decode cL_plate 217 = .ok (.if_icmp .ne 9, 3) := by decide +kernel
theorem dL_plate_220 : decode cL_plate 220 = .ok (.sipush (-1005), 3) := by decide +kernel
theorem dL_plate_223 : decode cL_plate 223 = .ok (.goto 5, 3) := by decide +kernel
theorem dL_plate_226 : decode cL_plate 226 = .ok (.iload 4, 2) := by decide +kernel
theorem dL_plate_228 : decode cL_plate 228 = .ok (.if_icmp .ne 18, 3) := by decide +kernel
theorem dL_plate_231 : decode cL_plate 231 = .ok (.aload_n 0, 1) := by decide +kernel
theorem dL_plate_232 : decode cL_plate 232 = .ok (.iconst 4, 1) := by decide +kernel
theorem dL_plate_233 : decode cL_plate 233 = .ok (.invokevirtual 71, 3) := by decide +kernel
theorem dL_plate_236 : decode cL_plate 236 = .ok (.sipush (-1002), 3) := by decide +kernel
theorem dL_plate_239 : decode cL_plate 239 = .ok (.if_icmp .ne 7, 3) := by decide +kernel
theorem dL_plate_242 : decode cL_plate 242 = .ok (.iconst 1, 1) := by decide +kernel
theorem dL_plate_243 : decode cL_plate 243 = .ok (.goto 4, 3) := by decide +kernel
theorem dL_plate_246 : decode cL_plate 246 = .ok (.iconst 0, 1) := by decide +kernel
theorem dL_plate_247 : decode cL_plate 247 = .ok (.ireturn, 1) := by decide +kernel
set_option maxRecDepth 100000 in
theorem ggL_adjusts_L_low : GoodIn wsL_adjusts wsL_low := goodIn_r _ [4, 5] rfl (by decide +kernel)
set_option maxRecDepth 20000 in
theorem gL_adjusts_L_low : GoodIn wsL_adjusts (va_wsS RL 59 yL_low wsL_low) := goodIn_app (goodIn_of _ (by decide +kernel)) ggL_adjusts_L_low
set_option maxRecDepth 100000 in
theorem ggL_adjusts_X6_adjustment : GoodIn wsL_adjusts wsX6_adjustment := goodIn_r _ [10, 11, 12, 13, 14, 15, 16, 17, 18, 19, 20, 21, 22, 23, 24, 25, 26, 27, 28, 29, 30, 31, 32, 33, 34, 35, 36, 37, 38, 39, 40, 285, 286, 287, 288, 289, 290, 291, 292, 293, 294, 295, 296, 297, 298, 299, 300, 301, 302, 303] rfl (by decide +kernel)
set_option maxRecDepth 20000 in
theorem gL_adjusts_X6_adjustment : GoodIn wsL_adjusts (wsV RL 38 RX6 yX6_adjustment wsX6_adjustment) := goodIn_app (goodIn_of _ (by decide +kernel)) ggL_adjusts_X6_adjustment
set_option maxRecDepth 100000 in
theorem ggL_adjusts_X6_count : GoodIn wsL_adjusts wsX6_count := goodIn_r _ [44, 11, 45, 46, 47, 48, 49, 25, 50, 51, 52, 53, 54, 55, 56, 57, 58, 59, 60, 61, 62, 63, 64, 65, 66, 67, 68, 69, 70, 285, 286, 287, 288, 289, 290, 291, 292, 293, 294, 295, 296, 297, 298, 299, 304, 305, 306, 300, 301, 302, 303, 307, 308, 309, 310, 311] rfl (by decide +kernel)
set_option maxRecDepth 20000 in
theorem gL_adjusts_X6_count : GoodIn wsL_adjusts (wsV RL 13 RX6 yX6_count wsX6_count) := goodIn_app (goodIn_of _ (by decide +kernel)) ggL_adjusts_X6_count
set_option maxRecDepth 100000 in
theorem ggL_adjusts_X6_name : GoodIn wsL_adjusts wsX6_name := goodIn_r _ [74, 11, 75, 76, 77, 78, 79, 80, 81, 82, 83, 84, 85, 86, 87, 88, 25, 89, 90, 91, 92, 93, 94, 95, 96, 97, 98, 99, 100, 101, 102, 14, 103, 104, 105, 106, 107, 27, 108, 109, 110, 111, 28, 29, 30, 31, 32, 33, 34, 35, 36, 37, 38, 39, 40, 112, 113, 114, 115, 116, 117, 118, 51, 119, 120, 121, 122, 63, 64, 65, 66, 67, 68, 69, 70, 123, 124, 125, 126, 127, 128, 129, 130, 131, 132, 133, 134, 135, 136, 137, 138, 139, 140, 141, 142, 143, 144, 145, 146, 147, 148, 149, 150, 151, 152, 153, 154, 155, 60, 61, 62, 156, 157, 158, 159, 160, 161, 162, 9, 163, 164, 165, 166, 167, 168, 169, 170, 171, 172, 173, 174, 175, 176, 177, 178, 179, 180, 181, 182, 183, 184, 185, 186, 187, 188, 189, 190, 191, 192, 193, 285, 286, 287, 288, 289, 290, 291, 292, 293, 294, 295, 296, 297, 298, 299, 304, 305, 306, 300, 301, 302, 303] rfl (by decide +kernel)
set_option maxRecDepth 20000 in
theorem gL_adjusts_X6_name : GoodIn wsL_adjusts (wsV RL 19 RX6 yX6_name wsX6_name) := goodIn_app (goodIn_of _ (by decide +kernel)) ggL_adjusts_X6_name
set_option maxRecDepth 100000 in
theorem ggL_adjusts_X6_sign : GoodIn wsL_adjusts wsX6_sign := goodIn_r _ [197, 11, 198, 199, 200, 78, 201, 202, 76, 77, 79, 80, 203, 82, 83, 84, 85, 204, 97, 98, 99, 100, 205, 93, 94, 25, 95, 90, 96, 101, 102, 14, 103, 104, 105, 106, 107, 27, 108, 109, 110, 111, 91, 28, 29, 30, 31, 32, 33, 34, 35, 36, 37, 38, 39, 40, 112, 113, 114, 206, 207, 208, 209, 210, 211, 212, 213, 214, 215, 134, 135, 136, 137, 138, 139, 140, 141, 142, 143, 144, 51, 145, 146, 147, 148, 149, 87, 88, 89, 92, 150, 151, 152, 153, 154, 155, 60, 61, 62, 63, 64, 65, 66, 67, 68, 69, 70, 156, 157, 158, 159, 216, 217, 218, 9, 219, 169, 170, 171, 172, 173, 174, 175, 176, 177, 178, 179, 180, 124, 125, 126, 181, 128, 129, 130, 131, 132, 133, 182, 183, 184, 185, 285, 286, 287, 288, 289, 290, 291, 292, 293, 294, 295, 296, 297, 298, 299, 304, 305, 306, 300, 301, 302, 303] rfl (by decide +kernel)
set_option maxRecDepth 20000 in
theorem gL_adjusts_X6_sign : GoodIn wsL_adjusts (wsV RL 34 RX6 yX6_sign wsX6_sign) := goodIn_app (goodIn_of _ (by decide +kernel)) ggL_adjusts_X6_sign
set_option maxRecDepth 100000 in
theorem ggL_adjusts_X6_adjust : GoodIn wsL_adjusts wsX6_adjust := goodIn_r _ [223, 11, 45, 12, 13, 14, 15, 16, 17, 18, 19, 20, 21, 224, 225, 226, 25, 227, 90, 228, 116, 117, 118, 51, 229, 230, 231, 232, 91, 82, 83, 78, 84, 85, 96, 97, 98, 99, 100, 22, 23, 24, 26, 27, 28, 29, 30, 31, 32, 33, 34, 35, 36, 37, 38, 39, 40, 233, 234, 235, 236, 237, 238, 239, 240, 241, 242, 243, 244, 245, 246, 247, 248, 249, 250, 251, 252, 139, 140, 154, 63, 138, 253, 254, 255, 256, 257, 258, 259, 260, 261, 262, 80, 263, 264, 265, 266, 267, 268, 269, 270, 271, 272, 273, 274, 275, 276, 277, 278, 279, 280, 281, 282, 283, 284, 285, 286, 287, 288, 289, 290, 291, 292, 293, 294, 295, 296, 297, 298, 299, 304, 305, 306, 300, 301, 302, 303, 307, 308, 309] rfl (by decide +kernel)
set_option maxRecDepth 20000 in
theorem gL_adjusts_X6_adjust : GoodIn wsL_adjusts (wsV RL 74 RX6 yX6_adjust wsX6_adjust) := goodIn_app (goodIn_of _ (by decide +kernel)) ggL_adjusts_X6_adjust
theorem dL_adjusts_0 : decode cL_adjusts 0 = .ok (.bipush 65, 2) := by decide +kernel
theorem dL_adjusts_2 : decode cL_adjusts 2 = .ok (.iload_n 1, 1) := by decide +kernel
theorem dL_adjusts_3 : decode cL_adjusts 3 = .ok (.iconst 5, 1) := by decide +kernel
theorem dL_adjusts_4 : decode cL_adjusts 4 = .ok (.invokestatic 59, 3) := by decide +kernel
theorem dL_adjusts_7 : decode cL_adjusts 7 = .ok (.iadd, 1) := by decide +kernel
theorem dL_adjusts_8 : decode cL_adjusts 8 = .ok (.i2c, 1) := by decide +kernel
theorem dL_adjusts_9 : decode cL_adjusts 9 = .ok (.istore_n 3, 1) := by decide +kernel
theorem dL_adjusts_10 : decode cL_adjusts 10 = .ok (.iload_n 1, 1) := by decide +kernel
theorem dL_adjusts_11 : decode cL_adjusts 11 = .ok (.bipush 96, 2) := by decide +kernel
theorem dL_adjusts_13 : decode cL_adjusts 13 = .ok (.iand, 1) := by decide +kernel
theorem dL_adjusts_14 : decode cL_adjusts 14 = .ok (.ifCond .ne 8, 3) := by decide +kernel
theorem dL_adjusts_17 : decode cL_adjusts 17 = .ok (.bipush 46, 2) := by decide +kernel
theorem dL_adjusts_19 : decode cL_adjusts 19 = .ok (.goto 15, 3) := by decide +kernel
theorem dL_adjusts_22 : decode cL_adjusts 22 = .ok (.bipush 65, 2) := by decide +kernel
theorem dL_adjusts_24 : decode cL_adjusts 24 = .ok (.iload_n 1, 1) := by decide +kernel
theorem dL_adjusts_25 : decode cL_adjusts 25 = .ok (.bipush 7, 2) := by decide +kernel
theorem dL_adjusts_27 : decode cL_adjusts 27 = .ok (.ishr, 1) := by decide +kernel
theorem dL_adjusts_28 : decode cL_adjusts 28 = .ok (.iconst 5, 1) := by decide +kernel
theorem dL_adjusts_29 : decode cL_adjusts 29 = .ok (.invokestatic 59, 3) := by decide +kernel
theorem dL_adjusts_32 : decode cL_adjusts 32 = .ok (.iadd, 1) := by decide +kernel
theorem dL_adjusts_33 : decode cL_adjusts 33 = .ok (.i2c, 1) := by decide +kernel
theorem dL_adjusts_34 : decode cL_adjusts 34 = .ok (.istore 4, 2) := by decide +kernel
theorem dL_adjusts_36 : decode cL_adjusts 36 = .ok (.iload_n 2, 1) := by decide +kernel
theorem dL_adjusts_37 : decode cL_adjusts 37 = .ok (.bipush 7, 2) := by decide +kernel
theorem dL_adjusts_39 : decode cL_adjusts 39 = .ok (.invokestatic 59, 3) := by decide +kernel
theorem dL_adjusts_42 : decode cL_adjusts 42 = .ok (.iconst 3, 1) := by decide +kernel
theorem dL_adjusts_43 : decode cL_adjusts 43 = .ok (.isub, 1) := by decide +kernel
theorem dL_adjusts_44 : decode cL_adjusts 44 = .ok (.istore 5, 2) := by decide +kernel
theorem dL_adjusts_46 : decode cL_adjusts 46 = .ok (.aload_n 0, 1) := by decide +kernel
theorem dL_adjusts_47 : decode cL_adjusts 47 = .ok (.iload_n 3, 1) := by decide +kernel
theorem dL_adjusts_48 : decode cL_adjusts 48 = .ok (.iload 4, 2) := by decide +kernel
theorem dL_adjusts_50 : decode cL_adjusts 50 = .ok (.invokevirtual 38, 3) := by decide +kernel
theorem dL_adjusts_53 : decode cL_adjusts 53 = .ok (.istore 6, 2) := by decide +kernel
theorem dL_adjusts_55 : decode cL_adjusts 55 = .ok (.aload_n 0, 1) := by decide +kernel
theorem dL_adjusts_56 : decode cL_adjusts 56 = .ok (.bipush 9, 2) := by decide +kernel
theorem dL_adjusts_58 : decode cL_adjusts 58 = .ok (.invokevirtual 13, 3) := by decide +kernel
theorem dL_adjusts_61 : decode cL_adjusts 61 = .ok (.istore 7, 2) := by decide +kernel
theorem dL_adjusts_63 : decode cL_adjusts 63 = .ok (.iconst 0, 1) := by decide +kernel
theorem dL_adjusts_64 : decode cL_adjusts 64 = .ok (.istore 8, 2) := by decide +kernel
theorem dL_adjusts_66 : decode cL_adjusts 66 = .ok (.iconst 0, 1) := by decide +kernel
theorem dL_adjusts_67 : decode cL_adjusts 67 = .ok (.istore 9, 2) := by decide +kernel
theorem dL_adjusts_69 : decode cL_adjusts 69 = .ok (.iload 9, 2) := by decide +kernel
theorem dL_adjusts_71 : decode cL_adjusts 71 = .ok (.aload_n 0, 1) := by decide +kernel
theorem dL_adjusts_72 : decode cL_adjusts 72 = .ok (.iconst 4, 1) := by decide +kernel
theorem dL_adjusts_73 : decode cL_adjusts 73 = .ok (.invokevirtual 13, 3) := by decide +kernel
theorem dL_adjusts_76 : decode cL_adjusts 76 = .ok (.if_icmp .ge 82, 3) := by decide +kernel
theorem dL_adjusts_79 : decode cL_adjusts 79 = .ok (.iconst 0, 1) := by decide +kernel
theorem dL_adjusts_80 : decode cL_adjusts 80 = .ok (.istore 10, 2) := by decide +kernel
theorem dL_adjusts_82 : decode cL_adjusts 82 = .ok (.aload_n 0, 1) := by decide +kernel
theorem dL_adjusts_83 : decode cL_adjusts 83 = .ok (.iload 9, 2) := by decide +kernel
theorem dL_adjusts_85 : decode cL_adjusts 85 = .ok (.iconst 2, 1) := by decide +kernel
theorem dL_adjusts_86 : decode cL_adjusts 86 = .ok (.invokevirtual 19, 3) := by decide +kernel
theorem dL_adjusts_89 : decode cL_adjusts 89 = .ok (.iconst 1, 1) := by decide +kernel
theorem dL_adjusts_90 : decode cL_adjusts 90 = .ok (.if_icmp .ne 62, 3) := by decide +kernel
theorem dL_adjusts_93 : decode cL_adjusts 93 = .ok (.iload 10, 2) := by decide +kernel
theorem dL_adjusts_95 : decode cL_adjusts 95 = .ok (.iconst 1, 1) := by decide +kernel
theorem dL_adjusts_96 : decode cL_adjusts 96 = .ok (.iadd, 1) := by decide +kernel
theorem dL_adjusts_97 : decode cL_adjusts 97 = .ok (.aload_n 0, 1) := by decide +kernel
theorem dL_adjusts_98 : decode cL_adjusts 98 = .ok (.iload 9, 2) := by decide +kernel
theorem dL_adjusts_100 : decode cL_adjusts 100 = .ok (.iconst 0, 1) := by decide +kernel
theorem dL_adjusts_101 : decode cL_adjusts 101 = .ok (.invokevirtual 19, 3) := by decide +kernel
theorem dL_adjusts_104 : decode cL_adjusts 104 = .ok (.if_icmp .ge 48, 3) := by decide +kernel
theorem dL_adjusts_107 : decode cL_adjusts 107 = .ok (.iload 8, 2) := by decide +kernel
theorem dL_adjusts_109 : decode cL_adjusts 109 = .ok (.aload_n 0, 1) := by decide +kernel
theorem dL_adjusts_110 : decode cL_adjusts 110 = .ok (.iload 9, 2) := by decide +kernel
theorem dL_adjusts_112 : decode cL_adjusts 112 = .ok (.iload 10, 2) := by decide +kernel
theorem dL_adjusts_114 : decode cL_adjusts 114 = .ok (.iconst 0, 1) := by decide +kernel
theorem dL_adjusts_115 : decode cL_adjusts 115 = .ok (.invokevirtual 34, 3) := by decide +kernel
theorem dL_adjusts_118 : decode cL_adjusts 118 = .ok (.iload_n 3, 1) := by decide +kernel
theorem dL_adjusts_119 : decode cL_adjusts 119 = .ok (.if_icmp .ne 23, 3) := by decide +kernel
theorem dL_adjusts_122 : decode cL_adjusts 122 = .ok (.aload_n 0, 1) := by decide +kernel
theorem dL_adjusts_123 : decode cL_adjusts 123 = .ok (.iload 9, 2) := by decide +kernel
theorem dL_adjusts_125 : decode cL_adjusts 125 = .ok (.iload 10, 2) := by decide +kernel
theorem dL_adjusts_127 : decode cL_adjusts 127 = .ok (.iconst 1, 1) := by decide +kernel
theorem dL_adjusts_128 : decode cL_adjusts 128 = .ok (.iadd, 1) := by decide +kernel
theorem dL_adjusts_129 : decode cL_adjusts 129 = .ok (.iconst 0, 1) := by decide +kernel
theorem dL_adjusts_130 : decode cL_adjusts 130 = .ok (.invokevirtual 34, 3) := by decide +kernel
theorem dL_adjusts_133 : decode cL_adjusts 133 = .ok (.iload 4, 2) := by decide +kernel
theorem dL_adjusts_135 : decode cL_adjusts 135 = .ok (.if_icmp .ne 7, 3) := by decide +kernel
theorem dL_adjusts_138 : decode cL_adjusts 138 = .ok (.iconst 1, 1) := by decide +kernel
theorem dL_adjusts_139 : decode cL_adjusts 139 = .ok (.goto 4, 3) := by decide +kernel
theorem dL_adjusts_142 : decode cL_adjusts 142 = .ok (.iconst 0, 1) := by decide +kernel
theorem dL_adjusts_143 : decode cL_adjusts 143 = .ok (.ior, 1) := by decide +kernel
theorem dL_adjusts_144 : decode cL_adjusts 144 = .ok (.istore 8, 2) := by decide +kernel
theorem dL_adjusts_146 : decode cL_adjusts 146 = .ok (.iinc 10 1, 3) := by decide +kernel
theorem dL_adjusts_149 : decode cL_adjusts 149 = .ok (.goto (-67), 3) := by decide +kernel
theorem dL_adjusts_152 : decode cL_adjusts 152 = .ok (.iinc 9 1, 3) := by decide +kernel
theorem dL_adjusts_155 : decode cL_adjusts 155 = .ok (.goto (-86), 3) := by decide +kernel
theorem dL_adjusts_158 : decode cL_adjusts 158 = .ok (.aload_n 0, 1) := by decide +kernel
theorem dL_adjusts_159 : decode cL_adjusts 159 = .ok (.iload_n 3, 1) := by decide +kernel
theorem dL_adjusts_160 : decode cL_adjusts 160 = .ok (.iload 4, 2) := by decide +kernel
theorem dL_adjusts_162 : decode cL_adjusts 162 = .ok (.iload 5, 2) := by decide +kernel
theorem dL_adjusts_164 : decode cL_adjusts 164 = .ok (.invokevirtual 74, 3) := by decide +kernel
theorem dL_adjusts_167 : decode cL_adjusts 167 = .ok (.istore 9, 2) := by decide +kernel
theorem dL_adjusts_169 : decode cL_adjusts 169 = .ok (.iload 8, 2) := by decide +kernel
theorem dL_adjusts_171 : decode cL_adjusts 171 = .ok (.ifCond .eq 9, 3) := by decide +kernel
theorem dL_adjusts_174 : decode cL_adjusts 174 = .ok (.sipush (-1004), 3) := by decide +kernel
theorem dL_adjusts_177 : decode cL_adjusts 177 = .ok (.goto 36, 3) := by decide +kernel
theorem dL_adjusts_180 : decode cL_adjusts 180 = .ok (.iload 6, 2) := by decide +kernel
theorem dL_adjusts_182 : decode cL_adjusts 182 = .ok (.iload 5, 2) := by decide +kernel
theorem dL_adjusts_184 : decode cL_adjusts 184 = .ok (.if_icmp .ne 9, 3) := by decide +kernel
theorem dL_adjusts_187 : decode cL_adjusts 187 = .ok (.sipush (-1005), 3) := by decide +kernel
theorem dL_adjusts_190 : decode cL_adjusts 190 = .ok (.goto 23, 3) := by decide +kernel
theorem dL_adjusts_193 : decode cL_adjusts 193 = .ok (.iload 6, 2) := by decide +kernel
theorem dL_adjusts_195 : decode cL_adjusts 195 = .ok (.ifCond .ne 16, 3) := by decide +kernel
theorem dL_adjusts_198 : decode cL_adjusts 198 = .ok (.iload 7, 2) := by decide +kernel
theorem dL_adjusts_200 : decode cL_adjusts 200 = .ok (.bipush 16, 2) := by decide +kernel
theorem dL_adjusts_202 : decode cL_adjusts 202 = .ok (.if_icmp .ne 9, 3) := by decide +kernel
theorem dL_adjusts_205 : decode cL_adjusts 205 = .ok (.sipush (-1003), 3) := by decide +kernel
theorem dL_adjusts_208 : decode cL_adjusts 208 = .ok (.goto 5, 3) := by decide +kernel
theorem dL_adjusts_211 : decode cL_adjusts 211 = .ok (.iload 6, 2) := by decide +kernel
theorem dL_adjusts_213 : decode cL_adjusts 213 = .ok (.istore 10, 2) := by decide +kernel
theorem dL_adjusts_215 : decode cL_adjusts 215 = .ok (.iload 9, 2) := by decide +kernel
theorem dL_adjusts_217 : decode cL_adjusts 217 = .ok (.iload 10, 2) := by decide +kernel
theorem dL_adjusts_219 : decode cL_adjusts 219 = .ok (.if_icmp .ne 61, 3) := by decide +kernel
theorem dL_adjusts_222 : decode cL_adjusts 222 = .ok (.aload_n 0, 1) := by decide +kernel
theorem dL_adjusts_223 : decode cL_adjusts 223 = .ok (.iload_n 3, 1) := by decide +kernel
theorem dL_adjusts_224 : decode cL_adjusts 224 = .ok (.iload 4, 2) := by decide +kernel
theorem dL_adjusts_226 : decode cL_adjusts 226 = .ok (.invokevirtual 38, 3) := by decide +kernel
theorem dL_adjusts_229 : decode cL_adjusts 229 = .ok (.iload 10, 2) := by decide +kernel
theorem dL_adjusts_231 : decode cL_adjusts 231 = .ok (.sipush (-1000), 3) := by decide +kernel
theorem dL_adjusts_234 : decode cL_adjusts 234 = .ok (.if_icmp .ge 8, 3) := by decide +kernel
theorem dL_adjusts_237 : decode cL_adjusts 237 = .ok (.iload 6, 2) := by decide +kernel
theorem dL_adjusts_239 : decode cL_adjusts 239 = .ok (.goto 5, 3) := by decide +kernel
theorem dL_adjusts_242 : decode cL_adjusts 242 = .ok (.iload 5, 2) := by decide +kernel
theorem dL_adjusts_244 : decode cL_adjusts 244 = .ok (.if_icmp .ne 36, 3) := by decide +kernel
theorem dL_adjusts_247 : decode cL_adjusts 247 = .ok (.aload_n 0, 1) := by decide +kernel
theorem dL_adjusts_248 : decode cL_adjusts 248 = .ok (.iload_n 3, 1) := by decide +kernel
theorem dL_adjusts_249 : decode cL_adjusts 249 = .ok (.iload 4, 2) := by decide +kernel
theorem dL_adjusts_251 : decode cL_adjusts 251 = .ok (.iconst 4, 1) := by decide +kernel
theorem dL_adjusts_252 : decode cL_adjusts 252 = .ok (.invokevirtual 74, 3) := by decide +kernel
theorem dL_adjusts_255 : decode cL_adjusts 255 = .ok (.sipush (-1002), 3) := by decide +kernel
theorem dL_adjusts_258 : decode cL_adjusts 258 = .ok (.if_icmp .ne 22, 3) := by decide +kernel
theorem dL_adjusts_261 : decode cL_adjusts 261 = .ok (.aload_n 0, 1) := by decide +kernel
theorem dL_adjusts_262 : decode cL_adjusts 262 = .ok (.bipush 97, 2) := by decide +kernel
theorem dL_adjusts_264 : decode cL_adjusts 264 = .ok (.iload 4, 2) := by decide +kernel
theorem dL_adjusts_266 : decode cL_adjusts 266 = .ok (.iconst 0, 1) := by decide +kernel
theorem dL_adjusts_267 : decode cL_adjusts 267 = .ok (.invokevirtual 74, 3) := by decide +kernel
theorem dL_adjusts_270 : decode cL_adjusts 270 = .ok (.sipush (-1001), 3) := by decide +kernel
theorem dL_adjusts_273 : decode cL_adjusts 273 = .ok (.if_icmp .ne 7, 3) := by decide +kernel
theorem dL_adjusts_276 : decode cL_adjusts 276 = .ok (.iconst 1, 1) := by decide +kernel
theorem dL_adjusts_277 : decode cL_adjusts 277 = .ok (.goto 4, 3) := by decide +kernel
theorem dL_adjusts_280 : decode cL_adjusts 280 = .ok (.iconst 0, 1) := by decide +kernel
theorem dL_adjusts_281 : decode cL_adjusts 281 = .ok (.ireturn, 1) := by decide +kernel
set_option maxRecDepth 100000 in
theorem ggL_types_L_low : GoodIn wsL_types wsL_low := goodIn_r _ [4, 5] rfl (by decide +kernel)
set_option maxRecDepth 20000 in
theorem gL_types_L_low : GoodIn wsL_types (va_wsS RL 59 yL_low wsL_low) := goodIn_app (goodIn_of _ (by decide +kernel)) ggL_types_L_low
set_option maxRecDepth 100000 in
theorem ggL_types_X6_clearText : GoodIn wsL_types wsX6_clearText := goodIn_r _ [10, 11, 27, 28, 29, 30, 31, 32, 33] rfl (by decide +kernel)
set_option maxRecDepth 20000 in
theorem gL_types_X6_clearText : GoodIn wsL_types (wsV RL 78 RX6 yX6_clearText wsX6_clearText) := goodIn_app (goodIn_of _ (by decide +kernel)) ggL_types_X6_clearText
set_option maxRecDepth 100000 in
theorem ggL_types_X6_type : GoodIn wsL_types wsX6_type := goodIn_r _ [15, 11, 16, 17, 18, 19, 20, 21, 22, 23, 24, 25, 26, 27, 28, 29, 30, 31, 32, 33] rfl (by decide +kernel)
set_option maxRecDepth 20000 in
theorem gL_types_X6_type : GoodIn wsL_types (wsV RL 81 RX6 yX6_type wsX6_type) := goodIn_app (goodIn_of _ (by decide +kernel)) ggL_types_X6_type
theorem dL_types_0 : decode cL_types 0 = .ok (.iconst 1, 1) := by decide +kernel
theorem dL_types_1 : decode cL_types 1 = .ok (.iload_n 1, 1) := by decide +kernel
theorem dL_types_2 : decode cL_types 2 = .ok (.iconst 3, 1) := by decide +kernel
theorem dL_types_3 : decode cL_types 3 = .ok (.invokestatic 59, 3) := by decide +kernel
theorem dL_types_6 : decode cL_types 6 = .ok (.iadd, 1) := by decide +kernel
theorem dL_types_7 : decode cL_types 7 = .ok (.istore_n 3, 1) := by decide +kernel
theorem dL_types_8 : decode cL_types 8 = .ok (.aload_n 0, 1) := by decide +kernel
theorem dL_types_9 : decode cL_types 9 = .ok (.invokevirtual 78, 3) := by decide +kernel
theorem dL_types_12 : decode cL_types 12 = .ok (.istore 4, 2) := by decide +kernel
theorem dL_types_14 : decode cL_types 14 = .ok (.iconst 0, 1) := by decide +kernel
theorem dL_types_15 : decode cL_types 15 = .ok (.istore 5, 2) := by decide +kernel
theorem dL_types_17 : decode cL_types 17 = .ok (.iload 5, 2) := by decide +kernel
theorem dL_types_19 : decode cL_types 19 = .ok (.iload_n 3, 1) := by decide +kernel
theorem dL_types_20 : decode cL_types 20 = .ok (.if_icmp .ge 121, 3) := by decide +kernel
theorem dL_types_23 : decode cL_types 23 = .ok (.iload 5, 2) := by decide +kernel
theorem dL_types_25 : decode cL_types 25 = .ok (.ifCond .le 11, 3) := by decide +kernel
theorem dL_types_28 : decode cL_types 28 = .ok (.aload_n 0, 1) := by decide +kernel
theorem dL_types_29 : decode cL_types 29 = .ok (.bipush 59, 2) := by decide +kernel
theorem dL_types_31 : decode cL_types 31 = .ok (.invokevirtual 81, 3) := by decide +kernel
theorem dL_types_34 : decode cL_types 34 = .ok (.istore 4, 2) := by decide +kernel
theorem dL_types_36 : decode cL_types 36 = .ok (.iconst 1, 1) := by decide +kernel
theorem dL_types_37 : decode cL_types 37 = .ok (.iload_n 2, 1) := by decide +kernel
theorem dL_types_38 : decode cL_types 38 = .ok (.iconst 3, 1) := by decide +kernel
theorem dL_types_39 : decode cL_types 39 = .ok (.iload 5, 2) := by decide +kernel
theorem dL_types_41 : decode cL_types 41 = .ok (.imul, 1) := by decide +kernel
theorem dL_types_42 : decode cL_types 42 = .ok (.ishr, 1) := by decide +kernel
theorem dL_types_43 : decode cL_types 43 = .ok (.bipush 7, 2) := by decide +kernel
theorem dL_types_45 : decode cL_types 45 = .ok (.iand, 1) := by decide +kernel
theorem dL_types_46 : decode cL_types 46 = .ok (.iadd, 1) := by decide +kernel
theorem dL_types_47 : decode cL_types 47 = .ok (.istore 6, 2) := by decide +kernel
theorem dL_types_49 : decode cL_types 49 = .ok (.iconst 0, 1) := by decide +kernel
theorem dL_types_50 : decode cL_types 50 = .ok (.istore 7, 2) := by decide +kernel
theorem dL_types_52 : decode cL_types 52 = .ok (.iload 7, 2) := by decide +kernel
theorem dL_types_54 : decode cL_types 54 = .ok (.iload 6, 2) := by decide +kernel
theorem dL_types_56 : decode cL_types 56 = .ok (.if_icmp .ge 79, 3) := by decide +kernel
theorem dL_types_59 : decode cL_types 59 = .ok (.aload_n 0, 1) := by decide +kernel
theorem dL_types_60 : decode cL_types 60 = .ok (.bipush 65, 2) := by decide +kernel
theorem dL_types_62 : decode cL_types 62 = .ok (.iload_n 1, 1) := by decide +kernel
theorem dL_types_63 : decode cL_types 63 = .ok (.iload 5, 2) := by decide +kernel
theorem dL_types_65 : decode cL_types 65 = .ok (.ishr, 1) := by decide +kernel
theorem dL_types_66 : decode cL_types 66 = .ok (.iload 7, 2) := by decide +kernel
theorem dL_types_68 : decode cL_types 68 = .ok (.iload_n 2, 1) := by decide +kernel
theorem dL_types_69 : decode cL_types 69 = .ok (.bipush 7, 2) := by decide +kernel
theorem dL_types_71 : decode cL_types 71 = .ok (.iand, 1) := by decide +kernel
theorem dL_types_72 : decode cL_types 72 = .ok (.imul, 1) := by decide +kernel
theorem dL_types_73 : decode cL_types 73 = .ok (.iadd, 1) := by decide +kernel
theorem dL_types_74 : decode cL_types 74 = .ok (.iconst 5, 1) := by decide +kernel
theorem dL_types_75 : decode cL_types 75 = .ok (.invokestatic 59, 3) := by decide +kernel
theorem dL_types_78 : decode cL_types 78 = .ok (.iadd, 1) := by decide +kernel
theorem dL_types_79 : decode cL_types 79 = .ok (.i2c, 1) := by decide +kernel
theorem dL_types_80 : decode cL_types 80 = .ok (.invokevirtual 81, 3) := by decide +kernel
theorem dL_types_83 : decode cL_types 83 = .ok (.istore 4, 2) := by decide +kernel
theorem dL_types_85 : decode cL_types 85 = .ok (.iload 7, 2) := by decide +kernel
theorem dL_types_87 : decode cL_types 87 = .ok (.iconst 1, 1) := by decide +kernel
theorem dL_types_88 : decode cL_types 88 = .ok (.iadd, 1) := by decide +kernel
theorem dL_types_89 : decode cL_types 89 = .ok (.iload 6, 2) := by decide +kernel
theorem dL_types_91 : decode cL_types 91 = .ok (.if_icmp .ge 38, 3) := by decide +kernel
theorem dL_types_94 : decode cL_types 94 = .ok (.iload_n 2, 1) := by decide +kernel
theorem dL_types_95 : decode cL_types 95 = .ok (.iload 7, 2) := by decide +kernel
theorem dL_types_97 : decode cL_types 97 = .ok (.iload 5, 2) := by decide +kernel
theorem dL_types_99 : decode cL_types 99 = .ok (.iadd, 1) := by decide +kernel
theorem dL_types_100 : decode cL_types 100 = .ok (.ishr, 1) := by decide +kernel
theorem dL_types_101 : decode cL_types 101 = .ok (.bipush 7, 2) := by decide +kernel
theorem dL_types_103 : decode cL_types 103 = .ok (.iand, 1) := by decide +kernel
theorem dL_types_104 : decode cL_types 104 = .ok (.ifCond .ne 25, 3) := by decide +kernel
theorem dL_types_107 : decode cL_types 107 = .ok (.aload_n 0, 1) := by decide +kernel
theorem dL_types_108 : decode cL_types 108 = .ok (.iload_n 2, 1) := by decide +kernel
theorem dL_types_109 : decode cL_types 109 = .ok (.bipush 9, 2) := by decide +kernel
theorem dL_types_111 : decode cL_types 111 = .ok (.ishr, 1) := by decide +kernel
theorem dL_types_112 : decode cL_types 112 = .ok (.iconst 1, 1) := by decide +kernel
theorem dL_types_113 : decode cL_types 113 = .ok (.iand, 1) := by decide +kernel
theorem dL_types_114 : decode cL_types 114 = .ok (.ifCond .ne 8, 3) := by decide +kernel
theorem dL_types_117 : decode cL_types 117 = .ok (.bipush 46, 2) := by decide +kernel
theorem dL_types_119 : decode cL_types 119 = .ok (.goto 5, 3) := by decide +kernel
theorem dL_types_122 : decode cL_types 122 = .ok (.bipush 45, 2) := by decide +kernel
theorem dL_types_124 : decode cL_types 124 = .ok (.invokevirtual 81, 3) := by decide +kernel
theorem dL_types_127 : decode cL_types 127 = .ok (.istore 4, 2) := by decide +kernel
theorem dL_types_129 : decode cL_types 129 = .ok (.iinc 7 1, 3) := by decide +kernel
theorem dL_types_132 : decode cL_types 132 = .ok (.goto (-80), 3) := by decide +kernel
theorem dL_types_135 : decode cL_types 135 = .ok (.iinc 5 1, 3) := by decide +kernel
theorem dL_types_138 : decode cL_types 138 = .ok (.goto (-121), 3) := by decide +kernel
theorem dL_types_141 : decode cL_types 141 = .ok (.iload_n 3, 1) := by decide +kernel
theorem dL_types_142 : decode cL_types 142 = .ok (.ireturn, 1) := by decide +kernel
set_option maxRecDepth 100000 in
theorem ggL_names_X6_count : GoodIn wsL_names wsX6_count := goodIn_r _ [5, 6, 7, 8, 9, 10, 11, 12, 13, 14, 15, 16, 17, 18, 19, 20, 21, 22, 23, 24, 25, 26, 27, 28, 29, 30, 31, 32, 33, 313, 314, 315, 316, 317, 318, 319, 320, 321, 322, 323, 324, 325, 326, 327, 328, 329, 330, 331, 332, 333, 334, 335, 336, 337, 338, 339] rfl (by decide +kernel)
set_option maxRecDepth 20000 in
theorem gL_names_X6_count : GoodIn wsL_names (wsV RL 13 RX6 yX6_count wsX6_count) := goodIn_app (goodIn_of _ (by decide +kernel)) ggL_names_X6_count
set_option maxRecDepth 100000 in
theorem ggL_names_L_types : GoodIn wsL_names wsL_types := goodIn_r _ [37, 38, 39, 36, 40, 41, 42, 43, 44, 4, 45, 8, 46, 47, 48, 49, 50, 51, 52, 53, 54, 55, 56, 57, 58, 59, 60, 313, 314, 315, 316, 317, 338, 339] rfl (by decide +kernel)
set_option maxRecDepth 20000 in
theorem gL_names_L_types : GoodIn wsL_names (va_wsS RL 85 yL_types wsL_types) := goodIn_app (goodIn_of _ (by decide +kernel)) ggL_names_L_types
set_option maxRecDepth 100000 in
theorem ggL_names_X6_readNames : GoodIn wsL_names wsX6_readNames := goodIn_r _ [64, 8, 6, 7, 65, 66, 67, 53, 68, 55, 69, 70, 71, 72, 60, 73, 74, 75, 76, 77, 78, 79, 80, 81, 82, 83, 84, 85, 86, 87, 88, 89, 90, 91, 92, 93, 94, 95, 96, 97, 98, 99, 100, 101, 12, 102, 103, 104, 105, 106, 107, 26, 14, 108, 109, 110, 111, 112, 113, 114, 115, 116, 117, 118, 119, 120, 121, 122, 123, 124, 125, 126, 127, 128, 129, 130, 131, 132, 133, 134, 135, 4, 136, 137, 138, 139, 140, 141, 142, 143, 144, 145, 146, 147, 148, 149, 313, 314, 315, 316, 317, 318, 319, 320, 321, 322, 323, 324, 325, 326, 327, 328, 329, 330, 338, 339, 335, 336, 337, 331, 332, 333, 334] rfl (by decide +kernel)
set_option maxRecDepth 20000 in
theorem gL_names_X6_readNames : GoodIn wsL_names (wsV RL 89 RX6 yX6_readNames wsX6_readNames) := goodIn_app (goodIn_of _ (by decide +kernel)) ggL_names_X6_readNames
set_option maxRecDepth 100000 in
theorem ggL_names_L_low : GoodIn wsL_names wsL_low := goodIn_r _ [40, 41] rfl (by decide +kernel)
set_option maxRecDepth 20000 in
theorem gL_names_L_low : GoodIn wsL_names (va_wsS RL 59 yL_low wsL_low) := goodIn_app (goodIn_of _ (by decide +kernel)) ggL_names_L_low
set_option maxRecDepth 100000 in
theorem ggL_names_X6_name : GoodIn wsL_names wsX6_name := goodIn_r _ [153, 6, 154, 147, 148, 114, 149, 122, 155, 156, 157, 158, 121, 159, 160, 161, 12, 162, 103, 163, 164, 165, 166, 167, 168, 169, 170, 171, 116, 172, 173, 78, 174, 175, 176, 177, 178, 104, 179, 180, 181, 182, 183, 184, 185, 126, 186, 132, 128, 130, 187, 188, 189, 190, 131, 191, 192, 193, 194, 195, 196, 197, 14, 198, 199, 200, 201, 26, 27, 28, 29, 30, 31, 32, 33, 202, 203, 204, 205, 206, 207, 208, 209, 210, 211, 212, 213, 214, 215, 216, 108, 105, 106, 217, 218, 219, 220, 221, 222, 223, 224, 225, 226, 227, 228, 229, 107, 230, 23, 24, 25, 231, 232, 233, 234, 235, 236, 237, 4, 238, 239, 240, 241, 242, 243, 244, 245, 246, 247, 248, 249, 250, 251, 252, 253, 254, 255, 256, 257, 258, 259, 260, 261, 262, 263, 264, 265, 266, 267, 268, 313, 314, 315, 316, 317, 318, 319, 320, 321, 322, 323, 324, 325, 326, 327, 328, 329, 330, 331, 332, 333, 334] rfl (by decide +kernel)
set_option maxRecDepth 20000 in
theorem gL_names_X6_name : GoodIn wsL_names (wsV RL 19 RX6 yX6_name wsX6_name) := goodIn_app (goodIn_of _ (by decide +kernel)) ggL_names_X6_name
set_option maxRecDepth 100000 in
theorem ggL_names_X6_remove : GoodIn wsL_names wsX6_remove := goodIn_r _ [272, 6, 7, 154, 147, 148, 114, 149, 122, 273, 274, 275, 12, 276, 14, 87, 88, 89, 90, 91, 92, 93, 94, 95, 96, 97, 98, 99, 100, 101, 102, 103, 104, 105, 106, 107, 26, 108, 109, 110, 111, 112, 113, 115, 116, 117, 118, 119, 120, 121, 123, 124, 125, 126, 127, 128, 129, 130, 131, 132, 277, 278, 279, 280, 146, 281, 282, 283, 284, 313, 314, 315, 316, 317, 318, 319, 320, 321, 322, 323, 324, 325, 326, 327, 328, 329, 330, 335, 336, 337, 331, 332, 333, 334] rfl (by decide +kernel)
set_option maxRecDepth 20000 in
theorem gL_names_X6_remove : GoodIn wsL_names (wsV RL 92 RX6 yX6_remove wsX6_remove) := goodIn_app (goodIn_of _ (by decide +kernel)) ggL_names_X6_remove
set_option maxRecDepth 100000 in
theorem ggL_names_X6_swap : GoodIn wsL_names wsX6_swap := goodIn_r _ [288, 6, 7, 154, 147, 148, 114, 149, 122, 194, 195, 196, 12, 197, 14, 87, 88, 89, 90, 91, 92, 93, 94, 95, 96, 97, 98, 99, 100, 101, 102, 103, 104, 105, 106, 107, 26, 108, 109, 110, 111, 112, 113, 115, 116, 117, 118, 119, 120, 121, 123, 124, 125, 126, 127, 128, 129, 130, 131, 132, 289, 282, 283, 284, 146, 213, 214, 215, 216, 217, 218, 219, 220, 221, 222, 223, 224, 179, 180, 181, 182, 225, 160, 161, 162, 163, 156, 157, 158, 164, 165, 166, 167, 168, 169, 170, 171, 172, 173, 78, 174, 175, 176, 177, 178, 183, 184, 185, 186, 187, 188, 189, 190, 191, 192, 193, 226, 227, 228, 229, 230, 23, 24, 25, 27, 28, 29, 30, 31, 32, 33, 231, 232, 233, 234, 313, 314, 315, 316, 317, 318, 319, 320, 321, 322, 323, 324, 325, 326, 327, 328, 329, 330, 335, 336, 337, 331, 332, 333, 334] rfl (by decide +kernel)
set_option maxRecDepth 20000 in
theorem gL_names_X6_swap : GoodIn wsL_names (wsV RL 95 RX6 yX6_swap wsX6_swap) := goodIn_app (goodIn_of _ (by decide +kernel)) ggL_names_X6_swap
set_option maxRecDepth 100000 in
theorem ggL_names_X6_size : GoodIn wsL_names wsX6_size := goodIn_r _ [293, 6, 213, 214, 215, 12, 216, 108, 105, 106, 103, 217, 218, 219, 220, 14, 221, 222, 223, 224, 179, 180, 181, 182, 225, 160, 161, 162, 163, 156, 157, 114, 158, 121, 164, 165, 166, 167, 168, 169, 170, 171, 116, 172, 173, 78, 174, 175, 176, 177, 178, 104, 183, 184, 185, 126, 186, 132, 128, 130, 187, 188, 189, 190, 131, 191, 192, 193, 226, 227, 228, 229, 107, 230, 23, 24, 25, 26, 27, 28, 29, 30, 31, 32, 33, 231, 232, 233, 234, 313, 314, 315, 316, 317, 318, 319, 320, 321, 322, 323, 324, 325, 326, 327, 328, 329, 330, 331, 332, 333, 334] rfl (by decide +kernel)
set_option maxRecDepth 20000 in
theorem gL_names_X6_size : GoodIn wsL_names (wsV RL 30 RX6 yX6_size wsX6_size) := goodIn_app (goodIn_of _ (by decide +kernel)) ggL_names_X6_size
set_option maxRecDepth 100000 in
theorem ggL_names_X6_engrave : GoodIn wsL_names wsX6_engrave := goodIn_r _ [297, 6, 7, 154, 147, 148, 114, 149, 122, 213, 214, 215, 12, 216, 108, 105, 106, 103, 217, 218, 219, 220, 14, 221, 222, 223, 224, 179, 180, 181, 182, 225, 160, 161, 162, 163, 156, 157, 158, 121, 164, 165, 166, 167, 168, 169, 170, 171, 116, 172, 173, 78, 174, 175, 176, 177, 178, 104, 183, 184, 185, 126, 186, 132, 128, 130, 187, 188, 189, 190, 131, 191, 192, 193, 226, 227, 228, 229, 107, 230, 23, 24, 25, 26, 27, 28, 29, 30, 31, 32, 33, 231, 232, 233, 234, 239, 240, 241, 242, 243, 199, 200, 201, 194, 195, 196, 197, 87, 88, 89, 90, 91, 92, 93, 94, 95, 96, 97, 98, 99, 100, 101, 102, 109, 110, 111, 112, 113, 115, 117, 118, 119, 120, 123, 124, 125, 127, 129, 298, 299, 300, 301, 244, 245, 246, 247, 248, 249, 250, 251, 252, 253, 254, 255, 203, 204, 205, 256, 207, 208, 209, 210, 211, 212, 257, 258, 259, 260, 313, 314, 315, 316, 317, 318, 319, 320, 321, 322, 323, 324, 325, 326, 327, 328, 329, 330, 331, 332, 333, 334, 335, 336, 337] rfl (by decide +kernel)
set_option maxRecDepth 20000 in
theorem gL_names_X6_engrave : GoodIn wsL_names (wsV RL 98 RX6 yX6_engrave wsX6_engrave) := goodIn_app (goodIn_of _ (by decide +kernel)) ggL_names_X6_engrave
set_option maxRecDepth 100000 in
theorem ggL_names_X6_engraveAll : GoodIn wsL_names wsX6_engraveAll := goodIn_r _ [305, 6, 7, 213, 214, 215, 12, 216, 108, 105, 106, 103, 217, 218, 219, 220, 14, 221, 222, 223, 224, 179, 180, 181, 182, 225, 160, 161, 162, 163, 156, 157, 114, 158, 121, 164, 165, 166, 167, 168, 169, 170, 171, 116, 172, 173, 78, 174, 175, 176, 177, 178, 104, 183, 184, 185, 126, 186, 132, 128, 130, 187, 188, 189, 190, 131, 191, 192, 193, 226, 227, 228, 229, 107, 230, 23, 24, 25, 26, 27, 28, 29, 30, 31, 32, 33, 231, 232, 233, 234, 306, 307, 308, 309, 310, 195, 196, 197, 311, 240, 241, 242, 243, 199, 200, 201, 87, 88, 89, 90, 91, 92, 93, 94, 95, 96, 97, 98, 99, 100, 101, 102, 109, 110, 111, 112, 113, 115, 117, 118, 119, 120, 122, 123, 124, 125, 127, 129, 298, 299, 300, 301, 312, 16, 17, 18, 19, 20, 21, 313, 314, 315, 316, 317, 318, 319, 320, 321, 322, 323, 324, 325, 326, 327, 328, 329, 330, 331, 332, 333, 334, 335, 336, 337] rfl (by decide +kernel)
set_option maxRecDepth 20000 in
theorem gL_names_X6_engraveAll : GoodIn wsL_names (wsV RL 101 RX6 yX6_engraveAll wsX6_engraveAll) := goodIn_app (goodIn_of _ (by decide +kernel)) ggL_names_X6_engraveAll
theorem dL_names_0 : decode cL_names 0 = .ok (.aload_n 0, 1) := by decide +kernel
theorem dL_names_1 : decode cL_names 1 = .ok (.iconst 4, 1) := by decide +kernel
theorem dL_names_2 : decode cL_names 2 = .ok (.invokevirtual 13, 3) := by decide +kernel
theorem dL_names_5 : decode cL_names 5 = .ok (.istore 4, 2) := by decide +kernel
theorem dL_names_7 : decode cL_names 7 = .ok (.iload 4, 2) := by decide +kernel
theorem dL_names_9 : decode cL_names 9 = .ok (.ifCond .eq 9, 3) := by decide +kernel
theorem dL_names_12 : decode cL_names 12 = .ok (.iload_n 1, 1) := by decide +kernel
theorem dL_names_13 : decode cL_names 13 = .ok (.bipush 8, 2) := by decide +kernel
theorem dL_names_15 : decode cL_names 15 = .ok (.if_icmp .ge 42, 3) := by decide +kernel
theorem dL_names_18 : decode cL_names 18 = .ok (.aload_n 0, 1) := by decide +kernel
theorem dL_names_19 : decode cL_names 19 = .ok (.iload_n 2, 1) := by decide +kernel
theorem dL_names_20 : decode cL_names 20 = .ok (.iload_n 3, 1) := by decide +kernel
theorem dL_names_21 : decode cL_names 21 = .ok (.invokestatic 85, 3) := by decide +kernel
theorem dL_names_24 : decode cL_names 24 = .ok (.istore 5, 2) := by decide +kernel
theorem dL_names_26 : decode cL_names 26 = .ok (.aload_n 0, 1) := by decide +kernel
theorem dL_names_27 : decode cL_names 27 = .ok (.invokevirtual 89, 3) := by decide +kernel
theorem dL_names_30 : decode cL_names 30 = .ok (.iload 4, 2) := by decide +kernel
theorem dL_names_32 : decode cL_names 32 = .ok (.iload 5, 2) := by decide +kernel
theorem dL_names_34 : decode cL_names 34 = .ok (.iadd, 1) := by decide +kernel
theorem dL_names_35 : decode cL_names 35 = .ok (.bipush 20, 2) := by decide +kernel
theorem dL_names_37 : decode cL_names 37 = .ok (.if_icmp .le 9, 3) := by decide +kernel
theorem dL_names_40 : decode cL_names 40 = .ok (.sipush (-1003), 3) := by decide +kernel
theorem dL_names_43 : decode cL_names 43 = .ok (.goto 5, 3) := by decide +kernel
theorem dL_names_46 : decode cL_names 46 = .ok (.iload 5, 2) := by decide +kernel
theorem dL_names_48 : decode cL_names 48 = .ok (.if_icmp .ne 7, 3) := by decide +kernel
theorem dL_names_51 : decode cL_names 51 = .ok (.iconst 1, 1) := by decide +kernel
theorem dL_names_52 : decode cL_names 52 = .ok (.goto 4, 3) := by decide +kernel
theorem dL_names_55 : decode cL_names 55 = .ok (.iconst 0, 1) := by decide +kernel
theorem dL_names_56 : decode cL_names 56 = .ok (.ireturn, 1) := by decide +kernel
theorem dL_names_57 : decode cL_names 57 = .ok (.iload_n 2, 1) := by decide +kernel
theorem dL_names_58 : decode cL_names 58 = .ok (.iload 4, 2) := by decide +kernel
theorem dL_names_60 : decode cL_names 60 = .ok (.invokestatic 59, 3) := by decide +kernel
theorem dL_names_63 : decode cL_names 63 = .ok (.istore 5, 2) := by decide +kernel
theorem dL_names_65 : decode cL_names 65 = .ok (.iload_n 3, 1) := by decide +kernel
theorem dL_names_66 : decode cL_names 66 = .ok (.iload 4, 2) := by decide +kernel
theorem dL_names_68 : decode cL_names 68 = .ok (.invokestatic 59, 3) := by decide +kernel
theorem dL_names_71 : decode cL_names 71 = .ok (.istore 6, 2) := by decide +kernel
theorem dL_names_73 : decode cL_names 73 = .ok (.aload_n 0, 1) := by decide +kernel
theorem dL_names_74 : decode cL_names 74 = .ok (.iload 5, 2) := by decide +kernel
theorem dL_names_76 : decode cL_names 76 = .ok (.iconst 2, 1) := by decide +kernel
theorem dL_names_77 : decode cL_names 77 = .ok (.invokevirtual 19, 3) := by decide +kernel
theorem dL_names_80 : decode cL_names 80 = .ok (.iconst 1, 1) := by decide +kernel
theorem dL_names_81 : decode cL_names 81 = .ok (.if_icmp .ne 7, 3) := by decide +kernel
theorem dL_names_84 : decode cL_names 84 = .ok (.iconst 1, 1) := by decide +kernel
theorem dL_names_85 : decode cL_names 85 = .ok (.goto 4, 3) := by decide +kernel
theorem dL_names_88 : decode cL_names 88 = .ok (.iconst 0, 1) := by decide +kernel
theorem dL_names_89 : decode cL_names 89 = .ok (.istore 7, 2) := by decide +kernel
theorem dL_names_91 : decode cL_names 91 = .ok (.iload_n 1, 1) := by decide +kernel
theorem dL_names_92 : decode cL_names 92 = .ok (.bipush 8, 2) := by decide +kernel
theorem dL_names_94 : decode cL_names 94 = .ok (.if_icmp .ne 86, 3) := by decide +kernel
theorem dL_names_97 : decode cL_names 97 = .ok (.iconst 0, 1) := by decide +kernel
theorem dL_names_98 : decode cL_names 98 = .ok (.istore 8, 2) := by decide +kernel
theorem dL_names_100 : decode cL_names 100 = .ok (.iload 5, 2) := by decide +kernel
theorem dL_names_102 : decode cL_names 102 = .ok (.istore 9, 2) := by decide +kernel
theorem dL_names_104 : decode cL_names 104 = .ok (.iload 9, 2) := by decide +kernel
theorem dL_names_106 : decode cL_names 106 = .ok (.iload 4, 2) := by decide +kernel
theorem dL_names_108 : decode cL_names 108 = .ok (.if_icmp .ge 30, 3) := by decide +kernel
theorem dL_names_111 : decode cL_names 111 = .ok (.iload 8, 2) := by decide +kernel
theorem dL_names_113 : decode cL_names 113 = .ok (.aload_n 0, 1) := by decide +kernel
theorem dL_names_114 : decode cL_names 114 = .ok (.iload 9, 2) := by decide +kernel
theorem dL_names_116 : decode cL_names 116 = .ok (.iconst 2, 1) := by decide +kernel
theorem dL_names_117 : decode cL_names 117 = .ok (.invokevirtual 19, 3) := by decide +kernel
theorem dL_names_120 : decode cL_names 120 = .ok (.iconst 1, 1) := by decide +kernel
theorem dL_names_121 : decode cL_names 121 = .ok (.if_icmp .ne 7, 3) := by decide +kernel
theorem dL_names_124 : decode cL_names 124 = .ok (.iconst 1, 1) := by decide +kernel
theorem dL_names_125 : decode cL_names 125 = .ok (.goto 4, 3) := by decide +kernel
theorem dL_names_128 : decode cL_names 128 = .ok (.iconst 0, 1) := by decide +kernel
theorem dL_names_129 : decode cL_names 129 = .ok (.ior, 1) := by decide +kernel
theorem dL_names_130 : decode cL_names 130 = .ok (.istore 8, 2) := by decide +kernel
theorem dL_names_132 : decode cL_names 132 = .ok (.iinc 9 1, 3) := by decide +kernel
theorem dL_names_135 : decode cL_names 135 = .ok (.goto (-31), 3) := by decide +kernel
theorem dL_names_138 : decode cL_names 138 = .ok (.aload_n 0, 1) := by decide +kernel
theorem dL_names_139 : decode cL_names 139 = .ok (.iload 5, 2) := by decide +kernel
theorem dL_names_141 : decode cL_names 141 = .ok (.invokevirtual 92, 3) := by decide +kernel
theorem dL_names_144 : decode cL_names 144 = .ok (.iload 8, 2) := by decide +kernel
theorem dL_names_146 : decode cL_names 146 = .ok (.ifCond .eq 9, 3) := by decide +kernel
theorem dL_names_149 : decode cL_names 149 = .ok (.sipush (-1004), 3) := by decide +kernel
theorem dL_names_152 : decode cL_names 152 = .ok (.goto 7, 3) := by decide +kernel
theorem dL_names_155 : decode cL_names 155 = .ok (.iload 4, 2) := by decide +kernel
theorem dL_names_157 : decode cL_names 157 = .ok (.iconst 1, 1) := by decide +kernel
theorem dL_names_158 : decode cL_names 158 = .ok (.isub, 1) := by decide +kernel
theorem dL_names_159 : decode cL_names 159 = .ok (.if_icmp .ne 19, 3) := by decide +kernel
theorem dL_names_162 : decode cL_names 162 = .ok (.aload_n 0, 1) := by decide +kernel
theorem dL_names_163 : decode cL_names 163 = .ok (.iload 4, 2) := by decide +kernel
theorem dL_names_165 : decode cL_names 165 = .ok (.invokevirtual 92, 3) := by decide +kernel
theorem dL_names_168 : decode cL_names 168 = .ok (.sipush (-1001), 3) := by decide +kernel
theorem dL_names_171 : decode cL_names 171 = .ok (.if_icmp .ne 7, 3) := by decide +kernel
theorem dL_names_174 : decode cL_names 174 = .ok (.iconst 1, 1) := by decide +kernel
theorem dL_names_175 : decode cL_names 175 = .ok (.goto 4, 3) := by decide +kernel
theorem dL_names_178 : decode cL_names 178 = .ok (.iconst 0, 1) := by decide +kernel
theorem dL_names_179 : decode cL_names 179 = .ok (.ireturn, 1) := by decide +kernel
theorem dL_names_180 : decode cL_names 180 = .ok (.iload_n 1, 1) := by decide +kernel
theorem dL_names_181 : decode cL_names 181 = .ok (.bipush 9, 2) := by decide +kernel
theorem dL_names_183 : decode cL_names 183 = .ok (.if_icmp .ne 115, 3) := by decide +kernel
theorem dL_names_186 : decode cL_names 186 = .ok (.aload_n 0, 1) := by decide +kernel
theorem dL_names_187 : decode cL_names 187 = .ok (.iload 5, 2) := by decide +kernel
theorem dL_names_189 : decode cL_names 189 = .ok (.iconst 1, 1) := by decide +kernel
theorem dL_names_190 : decode cL_names 190 = .ok (.invokevirtual 19, 3) := by decide +kernel
theorem dL_names_193 : decode cL_names 193 = .ok (.istore 8, 2) := by decide +kernel
theorem dL_names_195 : decode cL_names 195 = .ok (.iload 7, 2) := by decide +kernel
theorem dL_names_197 : decode cL_names 197 = .ok (.ifCond .ne 17, 3) := by decide +kernel
theorem dL_names_200 : decode cL_names 200 = .ok (.aload_n 0, 1) := by decide +kernel
theorem dL_names_201 : decode cL_names 201 = .ok (.iload 6, 2) := by decide +kernel
theorem dL_names_203 : decode cL_names 203 = .ok (.iconst 2, 1) := by decide +kernel
theorem dL_names_204 : decode cL_names 204 = .ok (.invokevirtual 19, 3) := by decide +kernel
theorem dL_names_207 : decode cL_names 207 = .ok (.ifCond .ne 7, 3) := by decide +kernel
theorem dL_names_210 : decode cL_names 210 = .ok (.iconst 1, 1) := by decide +kernel
theorem dL_names_211 : decode cL_names 211 = .ok (.goto 4, 3) := by decide +kernel
theorem dL_names_214 : decode cL_names 214 = .ok (.iconst 0, 1) := by decide +kernel
theorem dL_names_215 : decode cL_names 215 = .ok (.istore 9, 2) := by decide +kernel
theorem dL_names_217 : decode cL_names 217 = .ok (.aload_n 0, 1) := by decide +kernel
theorem dL_names_218 : decode cL_names 218 = .ok (.iload 5, 2) := by decide +kernel
theorem dL_names_220 : decode cL_names 220 = .ok (.iload 6, 2) := by decide +kernel
theorem dL_names_222 : decode cL_names 222 = .ok (.invokevirtual 95, 3) := by decide +kernel
theorem dL_names_225 : decode cL_names 225 = .ok (.istore 10, 2) := by decide +kernel
theorem dL_names_227 : decode cL_names 227 = .ok (.iload 9, 2) := by decide +kernel
theorem dL_names_229 : decode cL_names 229 = .ok (.ifCond .ne 19, 3) := by decide +kernel
theorem dL_names_232 : decode cL_names 232 = .ok (.iload 10, 2) := by decide +kernel
theorem dL_names_234 : decode cL_names 234 = .ok (.sipush (-1004), 3) := by decide +kernel
theorem dL_names_237 : decode cL_names 237 = .ok (.if_icmp .ne 7, 3) := by decide +kernel
theorem dL_names_240 : decode cL_names 240 = .ok (.iconst 1, 1) := by decide +kernel
theorem dL_names_241 : decode cL_names 241 = .ok (.goto 56, 3) := by decide +kernel
theorem dL_names_244 : decode cL_names 244 = .ok (.iconst 0, 1) := by decide +kernel
theorem dL_names_245 : decode cL_names 245 = .ok (.goto 52, 3) := by decide +kernel
theorem dL_names_248 : decode cL_names 248 = .ok (.iload 5, 2) := by decide +kernel
theorem dL_names_250 : decode cL_names 250 = .ok (.iload 6, 2) := by decide +kernel
theorem dL_names_252 : decode cL_names 252 = .ok (.if_icmp .ne 19, 3) := by decide +kernel
theorem dL_names_255 : decode cL_names 255 = .ok (.iload 10, 2) := by decide +kernel
theorem dL_names_257 : decode cL_names 257 = .ok (.sipush (-1005), 3) := by decide +kernel
theorem dL_names_260 : decode cL_names 260 = .ok (.if_icmp .ne 7, 3) := by decide +kernel
theorem dL_names_263 : decode cL_names 263 = .ok (.iconst 1, 1) := by decide +kernel
theorem dL_names_264 : decode cL_names 264 = .ok (.goto 33, 3) := by decide +kernel
theorem dL_names_267 : decode cL_names 267 = .ok (.iconst 0, 1) := by decide +kernel
theorem dL_names_268 : decode cL_names 268 = .ok (.goto 29, 3) := by decide +kernel
theorem dL_names_271 : decode cL_names 271 = .ok (.iload 10, 2) := by decide +kernel
theorem dL_names_273 : decode cL_names 273 = .ok (.aload_n 0, 1) := by decide +kernel
theorem dL_names_274 : decode cL_names 274 = .ok (.invokevirtual 30, 3) := by decide +kernel
theorem dL_names_277 : decode cL_names 277 = .ok (.if_icmp .ne 19, 3) := by decide +kernel
theorem dL_names_280 : decode cL_names 280 = .ok (.aload_n 0, 1) := by decide +kernel
theorem dL_names_281 : decode cL_names 281 = .ok (.iload 6, 2) := by decide +kernel
theorem dL_names_283 : decode cL_names 283 = .ok (.iconst 1, 1) := by decide +kernel
theorem dL_names_284 : decode cL_names 284 = .ok (.invokevirtual 19, 3) := by decide +kernel
theorem dL_names_287 : decode cL_names 287 = .ok (.iload 8, 2) := by decide +kernel
theorem dL_names_289 : decode cL_names 289 = .ok (.if_icmp .ne 7, 3) := by decide +kernel
theorem dL_names_292 : decode cL_names 292 = .ok (.iconst 1, 1) := by decide +kernel
theorem dL_names_293 : decode cL_names 293 = .ok (.goto 4, 3) := by decide +kernel
theorem dL_names_296 : decode cL_names 296 = .ok (.iconst 0, 1) := by decide +kernel
theorem dL_names_297 : decode cL_names 297 = .ok (.ireturn, 1) := by decide +kernel
theorem dL_names_298 : decode cL_names 298 = .ok (.iload_n 1, 1) := by decide +kernel
theorem dL_names_299 : decode cL_names 299 = .ok (.bipush 13, 2) := by decide +kernel
theorem dL_names_301 : decode cL_names 301 = .ok (.if_icmp .ge 117, 3) := by decide +kernel
theorem dL_names_304 : decode cL_names 304 = .ok (.aload_n 0, 1) := by decide +kernel
theorem dL_names_305 : decode cL_names 305 = .ok (.iload 5, 2) := by decide +kernel
theorem dL_names_307 : decode cL_names 307 = .ok (.bipush 7, 2) := by decide +kernel
theorem dL_names_309 : decode cL_names 309 = .ok (.invokevirtual 19, 3) := by decide +kernel
theorem dL_names_312 : decode cL_names 312 = .ok (.iconst 1, 1) := by decide +kernel
theorem dL_names_313 : decode cL_names 313 = .ok (.if_icmp .ne 7, 3) := by decide +kernel
theorem dL_names_316 : decode cL_names 316 = .ok (.iconst 1, 1) := by decide +kernel
theorem dL_names_317 : decode cL_names 317 = .ok (.goto 4, 3) := by decide +kernel
theorem dL_names_320 : decode cL_names 320 = .ok (.iconst 0, 1) := by decide +kernel
theorem dL_names_321 : decode cL_names 321 = .ok (.istore 8, 2) := by decide +kernel
theorem dL_names_323 : decode cL_names 323 = .ok (.aload_n 0, 1) := by decide +kernel
theorem dL_names_324 : decode cL_names 324 = .ok (.iload 5, 2) := by decide +kernel
theorem dL_names_326 : decode cL_names 326 = .ok (.iconst 5, 1) := by decide +kernel
theorem dL_names_327 : decode cL_names 327 = .ok (.invokevirtual 19, 3) := by decide +kernel
theorem dL_names_330 : decode cL_names 330 = .ok (.istore 9, 2) := by decide +kernel
theorem dL_names_332 : decode cL_names 332 = .ok (.aload_n 0, 1) := by decide +kernel
theorem dL_names_333 : decode cL_names 333 = .ok (.invokevirtual 30, 3) := by decide +kernel
theorem dL_names_336 : decode cL_names 336 = .ok (.istore 10, 2) := by decide +kernel
theorem dL_names_338 : decode cL_names 338 = .ok (.aload_n 0, 1) := by decide +kernel
theorem dL_names_339 : decode cL_names 339 = .ok (.iload 5, 2) := by decide +kernel
theorem dL_names_341 : decode cL_names 341 = .ok (.invokevirtual 98, 3) := by decide +kernel
theorem dL_names_344 : decode cL_names 344 = .ok (.istore 11, 2) := by decide +kernel
theorem dL_names_346 : decode cL_names 346 = .ok (.iload 11, 2) := by decide +kernel
theorem dL_names_348 : decode cL_names 348 = .ok (.iload 8, 2) := by decide +kernel
theorem dL_names_350 : decode cL_names 350 = .ok (.ifCond .ne 9, 3) := by decide +kernel
theorem dL_names_353 : decode cL_names 353 = .ok (.sipush (-1004), 3) := by decide +kernel
theorem dL_names_356 : decode cL_names 356 = .ok (.goto 16, 3) := by decide +kernel
theorem dL_names_359 : decode cL_names 359 = .ok (.iload 7, 2) := by decide +kernel
theorem dL_names_361 : decode cL_names 361 = .ok (.ifCond .eq 9, 3) := by decide +kernel
theorem dL_names_364 : decode cL_names 364 = .ok (.sipush (-1005), 3) := by decide +kernel
theorem dL_names_367 : decode cL_names 367 = .ok (.goto 5, 3) := by decide +kernel
theorem dL_names_370 : decode cL_names 370 = .ok (.iload 9, 2) := by decide +kernel
theorem dL_names_372 : decode cL_names 372 = .ok (.if_icmp .ne 44, 3) := by decide +kernel
theorem dL_names_375 : decode cL_names 375 = .ok (.aload_n 0, 1) := by decide +kernel
theorem dL_names_376 : decode cL_names 376 = .ok (.invokevirtual 30, 3) := by decide +kernel
theorem dL_names_379 : decode cL_names 379 = .ok (.iload 10, 2) := by decide +kernel
theorem dL_names_381 : decode cL_names 381 = .ok (.if_icmp .ne 35, 3) := by decide +kernel
theorem dL_names_384 : decode cL_names 384 = .ok (.iload 8, 2) := by decide +kernel
theorem dL_names_386 : decode cL_names 386 = .ok (.ifCond .eq 26, 3) := by decide +kernel
theorem dL_names_389 : decode cL_names 389 = .ok (.aload_n 0, 1) := by decide +kernel
theorem dL_names_390 : decode cL_names 390 = .ok (.iload 5, 2) := by decide +kernel
theorem dL_names_392 : decode cL_names 392 = .ok (.iconst 2, 1) := by decide +kernel
theorem dL_names_393 : decode cL_names 393 = .ok (.invokevirtual 19, 3) := by decide +kernel
theorem dL_names_396 : decode cL_names 396 = .ok (.iconst 1, 1) := by decide +kernel
theorem dL_names_397 : decode cL_names 397 = .ok (.if_icmp .ne 19, 3) := by decide +kernel
theorem dL_names_400 : decode cL_names 400 = .ok (.aload_n 0, 1) := by decide +kernel
theorem dL_names_401 : decode cL_names 401 = .ok (.iload 5, 2) := by decide +kernel
theorem dL_names_403 : decode cL_names 403 = .ok (.iconst 5, 1) := by decide +kernel
theorem dL_names_404 : decode cL_names 404 = .ok (.invokevirtual 19, 3) := by decide +kernel
theorem dL_names_407 : decode cL_names 407 = .ok (.iload 9, 2) := by decide +kernel
theorem dL_names_409 : decode cL_names 409 = .ok (.if_icmp .ne 7, 3) := by decide +kernel
theorem dL_names_412 : decode cL_names 412 = .ok (.iconst 1, 1) := by decide +kernel
theorem dL_names_413 : decode cL_names 413 = .ok (.goto 4, 3) := by decide +kernel
theorem dL_names_416 : decode cL_names 416 = .ok (.iconst 0, 1) := by decide +kernel
theorem dL_names_417 : decode cL_names 417 = .ok (.ireturn, 1) := by decide +kernel
theorem dL_names_418 : decode cL_names 418 = .ok (.iconst 0, 1) := by decide +kernel
theorem dL_names_419 : decode cL_names 419 = .ok (.istore 8, 2) := by decide +kernel
theorem dL_names_421 : decode cL_names 421 = .ok (.iconst 0, 1) := by decide +kernel
theorem dL_names_422 : decode cL_names 422 = .ok (.istore 9, 2) := by decide +kernel
theorem dL_names_424 : decode cL_names 424 = .ok (.iload 9, 2) := by decide +kernel
theorem dL_names_426 : decode cL_names 426 = .ok (.iload 4, 2) := by decide +kernel
theorem dL_names_428 : decode cL_names 428 = .ok (.if_icmp .ge 41, 3) := by decide +kernel
theorem dL_names_431 : decode cL_names 431 = .ok (.iload 8, 2) := by decide +kernel
theorem dL_names_433 : decode cL_names 433 = .ok (.aload_n 0, 1) := by decide +kernel
theorem dL_names_434 : decode cL_names 434 = .ok (.iload 9, 2) := by decide +kernel
theorem dL_names_436 : decode cL_names 436 = .ok (.iconst 2, 1) := by decide +kernel
theorem dL_names_437 : decode cL_names 437 = .ok (.invokevirtual 19, 3) := by decide +kernel
theorem dL_names_440 : decode cL_names 440 = .ok (.ifCond .ne 19, 3) := by decide +kernel
theorem dL_names_443 : decode cL_names 443 = .ok (.aload_n 0, 1) := by decide +kernel
theorem dL_names_444 : decode cL_names 444 = .ok (.iload 9, 2) := by decide +kernel
theorem dL_names_446 : decode cL_names 446 = .ok (.bipush 7, 2) := by decide +kernel
theorem dL_names_448 : decode cL_names 448 = .ok (.invokevirtual 19, 3) := by decide +kernel
theorem dL_names_451 : decode cL_names 451 = .ok (.iconst 1, 1) := by decide +kernel
theorem dL_names_452 : decode cL_names 452 = .ok (.if_icmp .ne 7, 3) := by decide +kernel
theorem dL_names_455 : decode cL_names 455 = .ok (.iconst 1, 1) := by decide +kernel
theorem dL_names_456 : decode cL_names 456 = .ok (.goto 4, 3) := by decide +kernel
theorem dL_names_459 : decode cL_names 459 = .ok (.iconst 0, 1) := by decide +kernel
theorem dL_names_460 : decode cL_names 460 = .ok (.iadd, 1) := by decide +kernel
theorem dL_names_461 : decode cL_names 461 = .ok (.istore 8, 2) := by decide +kernel
theorem dL_names_463 : decode cL_names 463 = .ok (.iinc 9 1, 3) := by decide +kernel
theorem dL_names_466 : decode cL_names 466 = .ok (.goto (-42), 3) := by decide +kernel
theorem dL_names_469 : decode cL_names 469 = .ok (.aload_n 0, 1) := by decide +kernel
theorem dL_names_470 : decode cL_names 470 = .ok (.iconst 5, 1) := by decide +kernel
theorem dL_names_471 : decode cL_names 471 = .ok (.invokevirtual 13, 3) := by decide +kernel
theorem dL_names_474 : decode cL_names 474 = .ok (.istore 9, 2) := by decide +kernel
theorem dL_names_476 : decode cL_names 476 = .ok (.aload_n 0, 1) := by decide +kernel
theorem dL_names_477 : decode cL_names 477 = .ok (.invokevirtual 101, 3) := by decide +kernel
theorem dL_names_480 : decode cL_names 480 = .ok (.iload 8, 2) := by decide +kernel
theorem dL_names_482 : decode cL_names 482 = .ok (.ifCond .ne 9, 3) := by decide +kernel
theorem dL_names_485 : decode cL_names 485 = .ok (.sipush (-1005), 3) := by decide +kernel
theorem dL_names_488 : decode cL_names 488 = .ok (.goto 5, 3) := by decide +kernel
theorem dL_names_491 : decode cL_names 491 = .ok (.iload 8, 2) := by decide +kernel
theorem dL_names_493 : decode cL_names 493 = .ok (.if_icmp .ne 20, 3) := by decide +kernel
theorem dL_names_496 : decode cL_names 496 = .ok (.aload_n 0, 1) := by decide +kernel
theorem dL_names_497 : decode cL_names 497 = .ok (.iconst 5, 1) := by decide +kernel
theorem dL_names_498 : decode cL_names 498 = .ok (.invokevirtual 13, 3) := by decide +kernel
theorem dL_names_501 : decode cL_names 501 = .ok (.iload 9, 2) := by decide +kernel
theorem dL_names_503 : decode cL_names 503 = .ok (.iload 8, 2) := by decide +kernel
theorem dL_names_505 : decode cL_names 505 = .ok (.iadd, 1) := by decide +kernel
theorem dL_names_506 : decode cL_names 506 = .ok (.if_icmp .ne 7, 3) := by decide +kernel
theorem dL_names_509 : decode cL_names 509 = .ok (.iconst 1, 1) := by decide +kernel
theorem dL_names_510 : decode cL_names 510 = .ok (.goto 4, 3) := by decide +kernel
theorem dL_names_513 : decode cL_names 513 = .ok (.iconst 0, 1) := by decide +kernel
theorem dL_names_514 : decode cL_names 514 = .ok (.ireturn, 1) := by decide +kernel
theorem dL_law_0 : decode cL_law 0 = .ok (.new 14, 3) := by decide +kernel
theorem dL_law_3 : decode cL_law 3 = .ok (.dup, 1) := by decide +kernel
theorem dL_law_4 : decode cL_law 4 = .ok (.invokespecial 104, 3) := by decide +kernel
theorem dL_law_7 : decode cL_law 7 = .ok (.astore_n 1, 1) := by decide +kernel
theorem dL_law_8 : decode cL_law 8 = .ok (.aload_n 1, 1) := by decide +kernel
theorem dL_law_9 : decode cL_law 9 = .ok (.invokevirtual 105, 3) := by decide +kernel
theorem dL_law_12 : decode cL_law 12 = .ok (.sipush (-1005), 3) := by decide +kernel
theorem dL_law_15 : decode cL_law 15 = .ok (.if_icmp .ne 74, 3) := by decide +kernel
theorem dL_law_18 : decode cL_law 18 = .ok (.aload_n 1, 1) := by decide +kernel
theorem dL_law_19 : decode cL_law 19 = .ok (.invokevirtual 108, 3) := by decide +kernel
theorem dL_law_22 : decode cL_law 22 = .ok (.sipush (-1005), 3) := by decide +kernel
theorem dL_law_25 : decode cL_law 25 = .ok (.if_icmp .ne 64, 3) := by decide +kernel
theorem dL_law_28 : decode cL_law 28 = .ok (.aload_n 1, 1) := by decide +kernel
theorem dL_law_29 : decode cL_law 29 = .ok (.invokevirtual 89, 3) := by decide +kernel
theorem dL_law_32 : decode cL_law 32 = .ok (.bipush (-100), 2) := by decide +kernel
theorem dL_law_34 : decode cL_law 34 = .ok (.if_icmp .ne 55, 3) := by decide +kernel
theorem dL_law_37 : decode cL_law 37 = .ok (.aload_n 1, 1) := by decide +kernel
theorem dL_law_38 : decode cL_law 38 = .ok (.invokevirtual 30, 3) := by decide +kernel
theorem dL_law_41 : decode cL_law 41 = .ok (.bipush 40, 2) := by decide +kernel
theorem dL_law_43 : decode cL_law 43 = .ok (.if_icmp .ne 46, 3) := by decide +kernel
theorem dL_law_46 : decode cL_law 46 = .ok (.aload_n 1, 1) := by decide +kernel
theorem dL_law_47 : decode cL_law 47 = .ok (.invokevirtual 50, 3) := by decide +kernel
theorem dL_law_50 : decode cL_law 50 = .ok (.sipush (-1005), 3) := by decide +kernel
theorem dL_law_53 : decode cL_law 53 = .ok (.if_icmp .ne 36, 3) := by decide +kernel
theorem dL_law_56 : decode cL_law 56 = .ok (.aload_n 1, 1) := by decide +kernel
theorem dL_law_57 : decode cL_law 57 = .ok (.invokevirtual 101, 3) := by decide +kernel
theorem dL_law_60 : decode cL_law 60 = .ok (.sipush (-1005), 3) := by decide +kernel
theorem dL_law_63 : decode cL_law 63 = .ok (.if_icmp .ne 26, 3) := by decide +kernel
theorem dL_law_66 : decode cL_law 66 = .ok (.aload_n 1, 1) := by decide +kernel
theorem dL_law_67 : decode cL_law 67 = .ok (.iconst 0, 1) := by decide +kernel
theorem dL_law_68 : decode cL_law 68 = .ok (.invokevirtual 98, 3) := by decide +kernel
theorem dL_law_71 : decode cL_law 71 = .ok (.sipush (-1001), 3) := by decide +kernel
theorem dL_law_74 : decode cL_law 74 = .ok (.if_icmp .ne 15, 3) := by decide +kernel
theorem dL_law_77 : decode cL_law 77 = .ok (.aload_n 1, 1) := by decide +kernel
theorem dL_law_78 : decode cL_law 78 = .ok (.iconst 0, 1) := by decide +kernel
theorem dL_law_79 : decode cL_law 79 = .ok (.iconst 0, 1) := by decide +kernel
theorem dL_law_80 : decode cL_law 80 = .ok (.invokevirtual 62, 3) := by decide +kernel
theorem dL_law_83 : decode cL_law 83 = .ok (.sipush (-1005), 3) := by decide +kernel
theorem dL_law_86 : decode cL_law 86 = .ok (.if_icmp .eq 5, 3) := by decide +kernel
theorem dL_law_89 : decode cL_law 89 = .ok (.iconst 0, 1) := by decide +kernel
theorem dL_law_90 : decode cL_law 90 = .ok (.ireturn, 1) := by decide +kernel
theorem dL_law_91 : decode cL_law 91 = .ok (.iconst 0, 1) := by decide +kernel
theorem dL_law_92 : decode cL_law 92 = .ok (.istore_n 2, 1) := by decide +kernel
theorem dL_law_93 : decode cL_law 93 = .ok (.iload_n 2, 1) := by decide +kernel
theorem dL_law_94 : decode cL_law 94 = .ok (.bipush 10, 2) := by decide +kernel
theorem dL_law_96 : decode cL_law 96 = .ok (.if_icmp .ge 281, 3) := by decide +kernel
theorem dL_law_99 : decode cL_law 99 = .ok (.aload_n 0, 1) := by decide +kernel
theorem dL_law_100 : decode cL_law 100 = .ok (.iconst 2, 1) := by decide +kernel
theorem dL_law_101 : decode cL_law 101 = .ok (.iload_n 2, 1) := by decide +kernel
theorem dL_law_102 : decode cL_law 102 = .ok (.imul, 1) := by decide +kernel
theorem dL_law_103 : decode cL_law 103 = .ok (.invokestatic 111, 3) := by decide +kernel
theorem dL_law_106 : decode cL_law 106 = .ok (.istore_n 3, 1) := by decide +kernel
theorem dL_law_107 : decode cL_law 107 = .ok (.aload_n 0, 1) := by decide +kernel
theorem dL_law_108 : decode cL_law 108 = .ok (.iconst 2, 1) := by decide +kernel
theorem dL_law_109 : decode cL_law 109 = .ok (.iload_n 2, 1) := by decide +kernel
theorem dL_law_110 : decode cL_law 110 = .ok (.imul, 1) := by decide +kernel
theorem dL_law_111 : decode cL_law 111 = .ok (.iconst 1, 1) := by decide +kernel
theorem dL_law_112 : decode cL_law 112 = .ok (.iadd, 1) := by decide +kernel
theorem dL_law_113 : decode cL_law 113 = .ok (.invokestatic 111, 3) := by decide +kernel
theorem dL_law_116 : decode cL_law 116 = .ok (.istore 4, 2) := by decide +kernel
theorem dL_law_118 : decode cL_law 118 = .ok (.iload_n 2, 1) := by decide +kernel
theorem dL_law_119 : decode cL_law 119 = .ok (.iconst 2, 1) := by decide +kernel
theorem dL_law_120 : decode cL_law 120 = .ok (.if_icmp .ge 8, 3) := by decide +kernel
theorem dL_law_123 : decode cL_law 123 = .ok (.bipush 6, 2) := by decide +kernel
theorem dL_law_125 : decode cL_law 125 = .ok (.goto 12, 3) := by decide +kernel
theorem dL_law_128 : decode cL_law 128 = .ok (.iload_n 3, 1) := by decide +kernel
theorem dL_law_129 : decode cL_law 129 = .ok (.bipush 9, 2) := by decide +kernel
theorem dL_law_131 : decode cL_law 131 = .ok (.ishr, 1) := by decide +kernel
theorem dL_law_132 : decode cL_law 132 = .ok (.bipush 15, 2) := by decide +kernel
theorem dL_law_134 : decode cL_law 134 = .ok (.invokestatic 59, 3) := by decide +kernel
theorem dL_law_137 : decode cL_law 137 = .ok (.istore 5, 2) := by decide +kernel
theorem dL_law_139 : decode cL_law 139 = .ok (.aload_n 1, 1) := by decide +kernel
theorem dL_law_140 : decode cL_law 140 = .ok (.bipush 10, 2) := by decide +kernel
theorem dL_law_142 : decode cL_law 142 = .ok (.invokevirtual 13, 3) := by decide +kernel
theorem dL_law_145 : decode cL_law 145 = .ok (.istore 6, 2) := by decide +kernel
theorem dL_law_147 : decode cL_law 147 = .ok (.aload_n 1, 1) := by decide +kernel
theorem dL_law_148 : decode cL_law 148 = .ok (.invokestatic 115, 3) := by decide +kernel
theorem dL_law_151 : decode cL_law 151 = .ok (.lstore 7, 2) := by decide +kernel
theorem dL_law_153 : decode cL_law 153 = .ok (.iconst 1, 1) := by decide +kernel
theorem dL_law_154 : decode cL_law 154 = .ok (.istore 9, 2) := by decide +kernel
theorem dL_law_156 : decode cL_law 156 = .ok (.iload 5, 2) := by decide +kernel
theorem dL_law_158 : decode cL_law 158 = .ok (.iconst 3, 1) := by decide +kernel
theorem dL_law_159 : decode cL_law 159 = .ok (.if_icmp .ge 16, 3) := by decide +kernel
theorem dL_law_162 : decode cL_law 162 = .ok (.aload_n 1, 1) := by decide +kernel
theorem dL_law_163 : decode cL_law 163 = .ok (.iload 5, 2) := by decide +kernel
theorem dL_law_165 : decode cL_law 165 = .ok (.iload 4, 2) := by decide +kernel
theorem dL_law_167 : decode cL_law 167 = .ok (.invokestatic 119, 3) := by decide +kernel
theorem dL_law_170 : decode cL_law 170 = .ok (.istore 9, 2) := by decide +kernel
theorem dL_law_172 : decode cL_law 172 = .ok (.goto 33, 3) := by decide +kernel
theorem dL_law_175 : decode cL_law 175 = .ok (.iload 5, 2) := by decide +kernel
theorem dL_law_177 : decode cL_law 177 = .ok (.bipush 6, 2) := by decide +kernel
theorem dL_law_179 : decode cL_law 179 = .ok (.if_icmp .ge 15, 3) := by decide +kernel
theorem dL_law_182 : decode cL_law 182 = .ok (.aload_n 1, 1) := by decide +kernel
theorem dL_law_183 : decode cL_law 183 = .ok (.iload_n 3, 1) := by decide +kernel
theorem dL_law_184 : decode cL_law 184 = .ok (.iload 4, 2) := by decide +kernel
theorem dL_law_186 : decode cL_law 186 = .ok (.invokestatic 123, 3) := by decide +kernel
theorem dL_law_189 : decode cL_law 189 = .ok (.istore 9, 2) := by decide +kernel
theorem dL_law_191 : decode cL_law 191 = .ok (.goto 14, 3) := by decide +kernel
theorem dL_law_194 : decode cL_law 194 = .ok (.aload_n 1, 1) := by decide +kernel
theorem dL_law_195 : decode cL_law 195 = .ok (.iload 5, 2) := by decide +kernel
theorem dL_law_197 : decode cL_law 197 = .ok (.iload_n 3, 1) := by decide +kernel
theorem dL_law_198 : decode cL_law 198 = .ok (.iload 4, 2) := by decide +kernel
theorem dL_law_200 : decode cL_law 200 = .ok (.invokestatic 126, 3) := by decide +kernel
theorem dL_law_203 : decode cL_law 203 = .ok (.istore 9, 2) := by decide +kernel
theorem dL_law_205 : decode cL_law 205 = .ok (.iload 6, 2) := by decide +kernel
theorem dL_law_207 : decode cL_law 207 = .ok (.iconst 5, 1) := by decide +kernel
theorem dL_law_208 : decode cL_law 208 = .ok (.if_icmp .ne 7, 3) := by decide +kernel
theorem dL_law_211 : decode cL_law 211 = .ok (.iconst 4, 1) := by decide +kernel
theorem dL_law_212 : decode cL_law 212 = .ok (.goto 5, 3) := by decide +kernel
theorem dL_law_215 : decode cL_law 215 = .ok (.iload 6, 2) := by decide +kernel
theorem dL_law_217 : decode cL_law 217 = .ok (.istore 10, 2) := by decide +kernel
theorem dL_law_219 : decode cL_law 219 = .ok (.iload 9, 2) := by decide +kernel
theorem dL_law_221 : decode cL_law 221 = .ok (.ifCond .eq 65, 3) := by decide +kernel
theorem dL_law_224 : decode cL_law 224 = .ok (.iload 4, 2) := by decide +kernel
theorem dL_law_226 : decode cL_law 226 = .ok (.sipush 3072, 3) := by decide +kernel
theorem dL_law_229 : decode cL_law 229 = .ok (.iand, 1) := by decide +kernel
theorem dL_law_230 : decode cL_law 230 = .ok (.ifCond .ne 56, 3) := by decide +kernel
theorem dL_law_233 : decode cL_law 233 = .ok (.aload_n 1, 1) := by decide +kernel
theorem dL_law_234 : decode cL_law 234 = .ok (.bipush 10, 2) := by decide +kernel
theorem dL_law_236 : decode cL_law 236 = .ok (.invokevirtual 13, 3) := by decide +kernel
theorem dL_law_239 : decode cL_law 239 = .ok (.iload 6, 2) := by decide +kernel
theorem dL_law_241 : decode cL_law 241 = .ok (.if_icmp .ne 19, 3) := by decide +kernel
theorem dL_law_244 : decode cL_law 244 = .ok (.iload 6, 2) := by decide +kernel
theorem dL_law_246 : decode cL_law 246 = .ok (.iconst 5, 1) := by decide +kernel
theorem dL_law_247 : decode cL_law 247 = .ok (.if_icmp .ne 39, 3) := by decide +kernel
theorem dL_law_250 : decode cL_law 250 = .ok (.aload_n 1, 1) := by decide +kernel
theorem dL_law_251 : decode cL_law 251 = .ok (.invokestatic 115, 3) := by decide +kernel
theorem dL_law_254 : decode cL_law 254 = .ok (.lload 7, 2) := by decide +kernel
theorem dL_law_256 : decode cL_law 256 = .ok (.lcmp, 1) := by decide +kernel
theorem dL_law_257 : decode cL_law 257 = .ok (.ifCond .eq 29, 3) := by decide +kernel
theorem dL_law_260 : decode cL_law 260 = .ok (.aload_n 1, 1) := by decide +kernel
theorem dL_law_261 : decode cL_law 261 = .ok (.invokevirtual 105, 3) := by decide +kernel
theorem dL_law_264 : decode cL_law 264 = .ok (.iload 10, 2) := by decide +kernel
theorem dL_law_266 : decode cL_law 266 = .ok (.if_icmp .ne 17, 3) := by decide +kernel
theorem dL_law_269 : decode cL_law 269 = .ok (.aload_n 1, 1) := by decide +kernel
theorem dL_law_270 : decode cL_law 270 = .ok (.invokestatic 115, 3) := by decide +kernel
theorem dL_law_273 : decode cL_law 273 = .ok (.lload 7, 2) := by decide +kernel
theorem dL_law_275 : decode cL_law 275 = .ok (.lcmp, 1) := by decide +kernel
theorem dL_law_276 : decode cL_law 276 = .ok (.ifCond .ne 7, 3) := by decide +kernel
theorem dL_law_279 : decode cL_law 279 = .ok (.iconst 1, 1) := by decide +kernel
theorem dL_law_280 : decode cL_law 280 = .ok (.goto 4, 3) := by decide +kernel
theorem dL_law_283 : decode cL_law 283 = .ok (.iconst 0, 1) := by decide +kernel
theorem dL_law_284 : decode cL_law 284 = .ok (.istore 9, 2) := by decide +kernel
theorem dL_law_286 : decode cL_law 286 = .ok (.aload_n 1, 1) := by decide +kernel
theorem dL_law_287 : decode cL_law 287 = .ok (.iconst 4, 1) := by decide +kernel
theorem dL_law_288 : decode cL_law 288 = .ok (.invokevirtual 13, 3) := by decide +kernel
theorem dL_law_291 : decode cL_law 291 = .ok (.istore 11, 2) := by decide +kernel
theorem dL_law_293 : decode cL_law 293 = .ok (.iload 9, 2) := by decide +kernel
theorem dL_law_295 : decode cL_law 295 = .ok (.ifCond .eq 34, 3) := by decide +kernel
theorem dL_law_298 : decode cL_law 298 = .ok (.aload_n 1, 1) := by decide +kernel
theorem dL_law_299 : decode cL_law 299 = .ok (.iload 11, 2) := by decide +kernel
theorem dL_law_301 : decode cL_law 301 = .ok (.ifCond .ne 7, 3) := by decide +kernel
theorem dL_law_304 : decode cL_law 304 = .ok (.iconst 0, 1) := by decide +kernel
theorem dL_law_305 : decode cL_law 305 = .ok (.goto 11, 3) := by decide +kernel
theorem dL_law_308 : decode cL_law 308 = .ok (.iload_n 3, 1) := by decide +kernel
theorem dL_law_309 : decode cL_law 309 = .ok (.iconst 2, 1) := by decide +kernel
theorem dL_law_310 : decode cL_law 310 = .ok (.ishr, 1) := by decide +kernel
theorem dL_law_311 : decode cL_law 311 = .ok (.iload 11, 2) := by decide +kernel
theorem dL_law_313 : decode cL_law 313 = .ok (.invokestatic 59, 3) := by decide +kernel
theorem dL_law_316 : decode cL_law 316 = .ok (.invokestatic 130, 3) := by decide +kernel
theorem dL_law_319 : decode cL_law 319 = .ok (.ifCond .eq 10, 3) := by decide +kernel
theorem dL_law_322 : decode cL_law 322 = .ok (.aload_n 1, 1) := by decide +kernel
theorem dL_law_323 : decode cL_law 323 = .ok (.invokestatic 134, 3) := by decide +kernel
theorem dL_law_326 : decode cL_law 326 = .ok (.ifCond .ne 5, 3) := by decide +kernel
theorem dL_law_329 : decode cL_law 329 = .ok (.iconst 0, 1) := by decide +kernel
theorem dL_law_330 : decode cL_law 330 = .ok (.ireturn, 1) := by decide +kernel
theorem dL_law_331 : decode cL_law 331 = .ok (.iload 11, 2) := by decide +kernel
theorem dL_law_333 : decode cL_law 333 = .ok (.ifCond .le 38, 3) := by decide +kernel
theorem dL_law_336 : decode cL_law 336 = .ok (.aload_n 1, 1) := by decide +kernel
theorem dL_law_337 : decode cL_law 337 = .ok (.iload_n 3, 1) := by decide +kernel
theorem dL_law_338 : decode cL_law 338 = .ok (.iconst 3, 1) := by decide +kernel
theorem dL_law_339 : decode cL_law 339 = .ok (.ishr, 1) := by decide +kernel
theorem dL_law_340 : decode cL_law 340 = .ok (.iload 11, 2) := by decide +kernel
theorem dL_law_342 : decode cL_law 342 = .ok (.invokestatic 59, 3) := by decide +kernel
theorem dL_law_345 : decode cL_law 345 = .ok (.invokestatic 138, 3) := by decide +kernel
theorem dL_law_348 : decode cL_law 348 = .ok (.ifCond .eq 21, 3) := by decide +kernel
theorem dL_law_351 : decode cL_law 351 = .ok (.aload_n 1, 1) := by decide +kernel
theorem dL_law_352 : decode cL_law 352 = .ok (.iload 4, 2) := by decide +kernel
theorem dL_law_354 : decode cL_law 354 = .ok (.iload 11, 2) := by decide +kernel
theorem dL_law_356 : decode cL_law 356 = .ok (.invokestatic 59, 3) := by decide +kernel
theorem dL_law_359 : decode cL_law 359 = .ok (.iload 4, 2) := by decide +kernel
theorem dL_law_361 : decode cL_law 361 = .ok (.iconst 5, 1) := by decide +kernel
theorem dL_law_362 : decode cL_law 362 = .ok (.ishr, 1) := by decide +kernel
theorem dL_law_363 : decode cL_law 363 = .ok (.invokestatic 140, 3) := by decide +kernel
theorem dL_law_366 : decode cL_law 366 = .ok (.ifCond .ne 5, 3) := by decide +kernel
theorem dL_law_369 : decode cL_law 369 = .ok (.iconst 0, 1) := by decide +kernel
theorem dL_law_370 : decode cL_law 370 = .ok (.ireturn, 1) := by decide +kernel
theorem dL_law_371 : decode cL_law 371 = .ok (.iinc 2 1, 3) := by decide +kernel
theorem dL_law_374 : decode cL_law 374 = .ok (.goto (-281), 3) := by decide +kernel
theorem dL_law_377 : decode cL_law 377 = .ok (.iconst 1, 1) := by decide +kernel
theorem dL_law_378 : decode cL_law 378 = .ok (.ireturn, 1) := by decide +kernel
abbrev vwCl : List vw_C := [(RX0, TX0, 3), (RX1, TX1, 3), (RX2, TX2, 4), (RX4, TX4, 10), (RX5, TX5, 2), (RX6, TX6, 5)]
