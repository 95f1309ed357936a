theorem dX6_nameBySize_0 : decode cX6_nameBySize 0 = .ok (.iload_n 2, 1) := by decide +kernel
theorem dX6_nameBySize_1 : decode cX6_nameBySize 1 = .ok (.iconst 5, 1) := by decide +kernel
theorem dX6_nameBySize_2 : decode cX6_nameBySize 2 = .ok (.if_icmp .lt 9, 3) := by decide +kernel
theorem dX6_nameBySize_5 : decode cX6_nameBySize 5 = .ok (.iload_n 2, 1) := by decide +kernel
theorem dX6_nameBySize_6 : decode cX6_nameBySize 6 = .ok (.bipush 9, 2) := by decide +kernel
theorem dX6_nameBySize_8 : decode cX6_nameBySize 8 = .ok (.if_icmp .le 7, 3) := by decide +kernel
theorem dX6_nameBySize_11 : decode cX6_nameBySize 11 = .ok (.sipush (-1002), 3) := by decide +kernel
theorem dX6_nameBySize_14 : decode cX6_nameBySize 14 = .ok (.ireturn, 1) := by decide +kernel
theorem dX6_nameBySize_15 : decode cX6_nameBySize 15 = .ok (.iload_n 2, 1) := by decide +kernel
theorem dX6_nameBySize_16 : decode cX6_nameBySize 16 = .ok (.bipush 7, 2) := by decide +kernel
theorem dX6_nameBySize_18 : decode cX6_nameBySize 18 = .ok (.if_icmp .ne 21, 3) := by decide +kernel
theorem dX6_nameBySize_21 : decode cX6_nameBySize 21 = .ok (.aload_n 0, 1) := by decide +kernel
theorem dX6_nameBySize_22 : decode cX6_nameBySize 22 = .ok (.getfield 10, 3) := by decide +kernel
theorem dX6_nameBySize_25 : decode cX6_nameBySize 25 = .ok (.iload_n 1, 1) := by decide +kernel
theorem dX6_nameBySize_26 : decode cX6_nameBySize 26 = .ok (.iload_n 3, 1) := by decide +kernel
theorem dX6_nameBySize_27 : decode cX6_nameBySize 27 = .ok (.invokevirtual 143, 3) := by decide +kernel
theorem dX6_nameBySize_30 : decode cX6_nameBySize 30 = .ok (.ifCond .eq 7, 3) := by decide +kernel
theorem dX6_nameBySize_33 : decode cX6_nameBySize 33 = .ok (.iconst 1, 1) := by decide +kernel
theorem dX6_nameBySize_34 : decode cX6_nameBySize 34 = .ok (.goto 4, 3) := by decide +kernel
theorem dX6_nameBySize_37 : decode cX6_nameBySize 37 = .ok (.iconst 0, 1) := by decide +kernel
theorem dX6_nameBySize_38 : decode cX6_nameBySize 38 = .ok (.ireturn, 1) := by decide +kernel
theorem dX6_nameBySize_39 : decode cX6_nameBySize 39 = .ok (.iload_n 3, 1) := by decide +kernel
theorem dX6_nameBySize_40 : decode cX6_nameBySize 40 = .ok (.ifCond .ne 7, 3) := by decide +kernel
theorem dX6_nameBySize_43 : decode cX6_nameBySize 43 = .ok (.sipush (-1005), 3) := by decide +kernel
theorem dX6_nameBySize_46 : decode cX6_nameBySize 46 = .ok (.ireturn, 1) := by decide +kernel
theorem dX6_nameBySize_47 : decode cX6_nameBySize 47 = .ok (.iload_n 2, 1) := by decide +kernel
theorem dX6_nameBySize_48 : decode cX6_nameBySize 48 = .ok (.tableswitch 63 5 8 #[32, 42, 63, 52], 32) := by decide +kernel
theorem dX6_nameBySize_80 : decode cX6_nameBySize 80 = .ok (.aload_n 0, 1) := by decide +kernel
theorem dX6_nameBySize_81 : decode cX6_nameBySize 81 = .ok (.getfield 10, 3) := by decide +kernel
theorem dX6_nameBySize_84 : decode cX6_nameBySize 84 = .ok (.iload_n 1, 1) := by decide +kernel
theorem dX6_nameBySize_85 : decode cX6_nameBySize 85 = .ok (.iload_n 3, 1) := by decide +kernel
theorem dX6_nameBySize_86 : decode cX6_nameBySize 86 = .ok (.invokevirtual 149, 3) := by decide +kernel
theorem dX6_nameBySize_89 : decode cX6_nameBySize 89 = .ok (.ireturn, 1) := by decide +kernel
theorem dX6_nameBySize_90 : decode cX6_nameBySize 90 = .ok (.aload_n 0, 1) := by decide +kernel
theorem dX6_nameBySize_91 : decode cX6_nameBySize 91 = .ok (.getfield 10, 3) := by decide +kernel
theorem dX6_nameBySize_94 : decode cX6_nameBySize 94 = .ok (.iload_n 1, 1) := by decide +kernel
theorem dX6_nameBySize_95 : decode cX6_nameBySize 95 = .ok (.iload_n 3, 1) := by decide +kernel
theorem dX6_nameBySize_96 : decode cX6_nameBySize 96 = .ok (.invokevirtual 187, 3) := by decide +kernel
theorem dX6_nameBySize_99 : decode cX6_nameBySize 99 = .ok (.ireturn, 1) := by decide +kernel
theorem dX6_nameBySize_100 : decode cX6_nameBySize 100 = .ok (.aload_n 0, 1) := by decide +kernel
theorem dX6_nameBySize_101 : decode cX6_nameBySize 101 = .ok (.getfield 10, 3) := by decide +kernel
theorem dX6_nameBySize_104 : decode cX6_nameBySize 104 = .ok (.iload_n 1, 1) := by decide +kernel
theorem dX6_nameBySize_105 : decode cX6_nameBySize 105 = .ok (.invokevirtual 171, 3) := by decide +kernel
theorem dX6_nameBySize_108 : decode cX6_nameBySize 108 = .ok (.iload_n 3, 1) := by decide +kernel
theorem dX6_nameBySize_109 : decode cX6_nameBySize 109 = .ok (.imul, 1) := by decide +kernel
theorem dX6_nameBySize_110 : decode cX6_nameBySize 110 = .ok (.ireturn, 1) := by decide +kernel
theorem dX6_nameBySize_111 : decode cX6_nameBySize 111 = .ok (.aload_n 0, 1) := by decide +kernel
theorem dX6_nameBySize_112 : decode cX6_nameBySize 112 = .ok (.getfield 10, 3) := by decide +kernel
theorem dX6_nameBySize_115 : decode cX6_nameBySize 115 = .ok (.iload_n 1, 1) := by decide +kernel
theorem dX6_nameBySize_116 : decode cX6_nameBySize 116 = .ok (.iload_n 3, 1) := by decide +kernel
theorem dX6_nameBySize_117 : decode cX6_nameBySize 117 = .ok (.invokevirtual 190, 3) := by decide +kernel
theorem dX6_nameBySize_120 : decode cX6_nameBySize 120 = .ok (.ireturn, 1) := by decide +kernel
set_option maxRecDepth 20000 in
theorem ggX6_sign_X1_isIn : GoodIn wsX6_sign wsX1_isIn := goodIn_r _ [6, 7, 8, 9, 5, 10, 11, 12, 13, 14, 15, 16, 157, 158, 159] (by decide +kernel) (by decide +kernel)
set_option maxRecDepth 20000 in
theorem gX6_sign_X1_isIn : GoodIn wsX6_sign (wsV RX6 193 RX1 yX1_isIn wsX1_isIn) := goodIn_app (goodIn_of _ (by decide +kernel)) ggX6_sign_X1_isIn
set_option maxRecDepth 20000 in
theorem ggX6_sign_X1_codeAt : GoodIn wsX6_sign wsX1_codeAt := goodIn_r _ [20, 21, 157, 158, 159] (by decide +kernel) (by decide +kernel)
set_option maxRecDepth 20000 in
theorem gX6_sign_X1_codeAt : GoodIn wsX6_sign (wsV RX6 196 RX1 yX1_codeAt wsX1_codeAt) := goodIn_app (goodIn_of _ (by decide +kernel)) ggX6_sign_X1_codeAt
set_option maxRecDepth 20000 in
theorem ggX6_sign_X4_unitsBefore : GoodIn wsX6_sign wsX4_unitsBefore := goodIn_r _ [26, 27, 28, 18, 19, 5, 20, 21, 29, 30, 31, 32, 33, 34, 35, 25, 36, 37, 38, 39, 40, 41, 42, 13, 14, 15, 16, 43, 44, 45, 46, 47, 48, 49, 50, 51, 52, 53, 54, 55, 56, 57, 58, 147, 148, 149, 150, 151, 152, 153, 154, 155, 156, 157, 158, 159, 160, 161, 162, 163] (by decide +kernel) (by decide +kernel)
set_option maxRecDepth 20000 in
theorem gX6_sign_X4_unitsBefore : GoodIn wsX6_sign (wsV RX6 200 RX4 yX4_unitsBefore wsX4_unitsBefore) := goodIn_app (goodIn_of _ (by decide +kernel)) ggX6_sign_X4_unitsBefore
set_option maxRecDepth 20000 in
theorem ggX6_sign_X3_width : GoodIn wsX6_sign wsX3_width := goodIn_r _ [32] (by decide +kernel) (by decide +kernel)
set_option maxRecDepth 20000 in
theorem gX6_sign_X3_width : GoodIn wsX6_sign (va_wsS RX6 203 yX3_width wsX3_width) := goodIn_app (goodIn_of _ (by decide +kernel)) ggX6_sign_X3_width
set_option maxRecDepth 20000 in
theorem ggX6_sign_X1_isLast : GoodIn wsX6_sign wsX1_isLast := goodIn_r _ [63, 12, 13, 14, 5, 15, 16, 157, 158, 159] (by decide +kernel) (by decide +kernel)
set_option maxRecDepth 20000 in
theorem gX6_sign_X1_isLast : GoodIn wsX6_sign (wsV RX6 207 RX1 yX1_isLast wsX1_isLast) := goodIn_app (goodIn_of _ (by decide +kernel)) ggX6_sign_X1_isLast
set_option maxRecDepth 20000 in
theorem ggX6_sign_X4_spaceBehind : GoodIn wsX6_sign wsX4_spaceBehind := goodIn_r _ [36, 27, 37, 38, 39, 40, 41, 42, 13, 14, 5, 15, 16, 28, 18, 19, 20, 21, 43, 44, 45, 46, 47, 48, 49, 50, 51, 52, 53, 54, 55, 56, 57, 31, 58, 147, 148, 149, 150, 151, 152, 153, 154, 155, 156, 157, 158, 159, 160, 161, 162, 163] (by decide +kernel) (by decide +kernel)
set_option maxRecDepth 20000 in
theorem gX6_sign_X4_spaceBehind : GoodIn wsX6_sign (wsV RX6 210 RX4 yX4_spaceBehind wsX4_spaceBehind) := goodIn_app (goodIn_of _ (by decide +kernel)) ggX6_sign_X4_spaceBehind
set_option maxRecDepth 20000 in
theorem ggX6_sign_X4_measuredSpace : GoodIn wsX6_sign wsX4_measuredSpace := goodIn_r _ [68, 27, 33, 34, 35, 25, 36, 37, 38, 39, 40, 41, 42, 13, 14, 5, 15, 16, 28, 18, 19, 20, 21, 43, 44, 45, 46, 47, 48, 49, 50, 51, 52, 53, 54, 55, 56, 57, 31, 58, 147, 148, 149, 150, 151, 152, 153, 154, 155, 156, 157, 158, 159, 160, 161, 162, 163] (by decide +kernel) (by decide +kernel)
set_option maxRecDepth 20000 in
theorem gX6_sign_X4_measuredSpace : GoodIn wsX6_sign (wsV RX6 213 RX4 yX4_measuredSpace wsX4_measuredSpace) := goodIn_app (goodIn_of _ (by decide +kernel)) ggX6_sign_X4_measuredSpace
set_option maxRecDepth 20000 in
theorem ggX6_sign_X4_sizeNow : GoodIn wsX6_sign wsX4_sizeNow := goodIn_r _ [72, 73, 74, 75, 27, 76, 77, 78, 25, 79, 80, 81, 82, 83, 84, 38, 39, 40, 41, 85, 86, 87, 88, 42, 13, 14, 5, 15, 16, 89, 23, 24, 26, 28, 18, 19, 20, 21, 29, 30, 31, 32, 33, 34, 35, 36, 37, 43, 44, 45, 46, 47, 48, 49, 50, 51, 52, 53, 54, 55, 56, 57, 58, 90, 91, 92, 93, 94, 95, 96, 97, 98, 99, 100, 101, 102, 103, 104, 105, 106, 107, 108, 109, 110, 147, 148, 149, 150, 151, 152, 153, 154, 155, 156, 157, 158, 159, 160, 161, 162, 163] (by decide +kernel) (by decide +kernel)
set_option maxRecDepth 20000 in
theorem gX6_sign_X4_sizeNow : GoodIn wsX6_sign (wsV RX6 140 RX4 yX4_sizeNow wsX4_sizeNow) := goodIn_app (goodIn_of _ (by decide +kernel)) ggX6_sign_X4_sizeNow
set_option maxRecDepth 20000 in
theorem ggX6_sign_X6_signBegin : GoodIn wsX6_sign wsX6_signBegin := goodIn_r _ [115, 1, 116, 117, 118, 25, 119, 74, 120, 121, 40, 122, 38, 39, 41, 107, 108, 109, 110, 94, 99, 100, 101, 102, 103, 104, 105, 106, 123, 124, 125, 126, 127, 128, 129, 130, 131, 132, 133, 134, 27, 42, 13, 14, 5, 15, 16, 28, 18, 19, 20, 21, 135, 136, 31, 137, 138, 139, 140, 141, 29, 30, 32, 33, 34, 35, 36, 37, 43, 44, 45, 46, 47, 48, 49, 50, 51, 52, 53, 54, 55, 56, 57, 58, 85, 86, 87, 88, 89, 23, 24, 26, 22, 142, 143, 144, 145, 146, 147, 148, 149, 150, 151, 152, 153, 154, 155, 156, 157, 158, 159, 160, 161, 162, 163] (by decide +kernel) (by decide +kernel)
set_option maxRecDepth 20000 in
theorem gX6_sign_X6_signBegin : GoodIn wsX6_sign (wsV RX6 216 RX6 yX6_signBegin wsX6_signBegin) := goodIn_app (goodIn_of _ (by decide +kernel)) ggX6_sign_X6_signBegin
theorem dX6_sign_0 : decode cX6_sign 0 = .ok (.aload_n 0, 1) := by decide +kernel
theorem dX6_sign_1 : decode cX6_sign 1 = .ok (.getfield 10, 3) := by decide +kernel
theorem dX6_sign_4 : decode cX6_sign 4 = .ok (.getfield 102, 3) := by decide +kernel
theorem dX6_sign_7 : decode cX6_sign 7 = .ok (.iload_n 1, 1) := by decide +kernel
theorem dX6_sign_8 : decode cX6_sign 8 = .ok (.iload_n 2, 1) := by decide +kernel
theorem dX6_sign_9 : decode cX6_sign 9 = .ok (.invokevirtual 193, 3) := by decide +kernel
theorem dX6_sign_12 : decode cX6_sign 12 = .ok (.ifCond .ne 7, 3) := by decide +kernel
theorem dX6_sign_15 : decode cX6_sign 15 = .ok (.sipush (-1001), 3) := by decide +kernel
theorem dX6_sign_18 : decode cX6_sign 18 = .ok (.ireturn, 1) := by decide +kernel
theorem dX6_sign_19 : decode cX6_sign 19 = .ok (.aload_n 0, 1) := by decide +kernel
theorem dX6_sign_20 : decode cX6_sign 20 = .ok (.getfield 10, 3) := by decide +kernel
theorem dX6_sign_23 : decode cX6_sign 23 = .ok (.getfield 102, 3) := by decide +kernel
theorem dX6_sign_26 : decode cX6_sign 26 = .ok (.iload_n 1, 1) := by decide +kernel
theorem dX6_sign_27 : decode cX6_sign 27 = .ok (.iload_n 2, 1) := by decide +kernel
theorem dX6_sign_28 : decode cX6_sign 28 = .ok (.invokevirtual 196, 3) := by decide +kernel
theorem dX6_sign_31 : decode cX6_sign 31 = .ok (.istore 4, 2) := by decide +kernel
theorem dX6_sign_33 : decode cX6_sign 33 = .ok (.iload_n 3, 1) := by decide +kernel
theorem dX6_sign_34 : decode cX6_sign 34 = .ok (.tableswitch 133 0 5 #[38, 41, 51, 57, 88, 119], 38) := by decide +kernel
theorem dX6_sign_72 : decode cX6_sign 72 = .ok (.iload 4, 2) := by decide +kernel
theorem dX6_sign_74 : decode cX6_sign 74 = .ok (.ireturn, 1) := by decide +kernel
theorem dX6_sign_75 : decode cX6_sign 75 = .ok (.aload_n 0, 1) := by decide +kernel
theorem dX6_sign_76 : decode cX6_sign 76 = .ok (.getfield 10, 3) := by decide +kernel
theorem dX6_sign_79 : decode cX6_sign 79 = .ok (.iload_n 1, 1) := by decide +kernel
theorem dX6_sign_80 : decode cX6_sign 80 = .ok (.iload_n 2, 1) := by decide +kernel
theorem dX6_sign_81 : decode cX6_sign 81 = .ok (.invokevirtual 200, 3) := by decide +kernel
theorem dX6_sign_84 : decode cX6_sign 84 = .ok (.ireturn, 1) := by decide +kernel
theorem dX6_sign_85 : decode cX6_sign 85 = .ok (.iload 4, 2) := by decide +kernel
theorem dX6_sign_87 : decode cX6_sign 87 = .ok (.invokestatic 203, 3) := by decide +kernel
theorem dX6_sign_90 : decode cX6_sign 90 = .ok (.ireturn, 1) := by decide +kernel
theorem dX6_sign_91 : decode cX6_sign 91 = .ok (.aload_n 0, 1) := by decide +kernel
theorem dX6_sign_92 : decode cX6_sign 92 = .ok (.getfield 10, 3) := by decide +kernel
theorem dX6_sign_95 : decode cX6_sign 95 = .ok (.getfield 102, 3) := by decide +kernel
theorem dX6_sign_98 : decode cX6_sign 98 = .ok (.iload_n 1, 1) := by decide +kernel
theorem dX6_sign_99 : decode cX6_sign 99 = .ok (.iload_n 2, 1) := by decide +kernel
theorem dX6_sign_100 : decode cX6_sign 100 = .ok (.invokevirtual 207, 3) := by decide +kernel
theorem dX6_sign_103 : decode cX6_sign 103 = .ok (.ifCond .eq 9, 3) := by decide +kernel
theorem dX6_sign_106 : decode cX6_sign 106 = .ok (.sipush (-1005), 3) := by decide +kernel
theorem dX6_sign_109 : decode cX6_sign 109 = .ok (.goto 12, 3) := by decide +kernel
theorem dX6_sign_112 : decode cX6_sign 112 = .ok (.aload_n 0, 1) := by decide +kernel
theorem dX6_sign_113 : decode cX6_sign 113 = .ok (.getfield 10, 3) := by decide +kernel
theorem dX6_sign_116 : decode cX6_sign 116 = .ok (.iload_n 1, 1) := by decide +kernel
theorem dX6_sign_117 : decode cX6_sign 117 = .ok (.iload_n 2, 1) := by decide +kernel
theorem dX6_sign_118 : decode cX6_sign 118 = .ok (.invokevirtual 210, 3) := by decide +kernel
theorem dX6_sign_121 : decode cX6_sign 121 = .ok (.ireturn, 1) := by decide +kernel
theorem dX6_sign_122 : decode cX6_sign 122 = .ok (.aload_n 0, 1) := by decide +kernel
theorem dX6_sign_123 : decode cX6_sign 123 = .ok (.getfield 10, 3) := by decide +kernel
theorem dX6_sign_126 : decode cX6_sign 126 = .ok (.getfield 102, 3) := by decide +kernel
theorem dX6_sign_129 : decode cX6_sign 129 = .ok (.iload_n 1, 1) := by decide +kernel
theorem dX6_sign_130 : decode cX6_sign 130 = .ok (.iload_n 2, 1) := by decide +kernel
theorem dX6_sign_131 : decode cX6_sign 131 = .ok (.invokevirtual 207, 3) := by decide +kernel
theorem dX6_sign_134 : decode cX6_sign 134 = .ok (.ifCond .eq 9, 3) := by decide +kernel
theorem dX6_sign_137 : decode cX6_sign 137 = .ok (.sipush (-1005), 3) := by decide +kernel
theorem dX6_sign_140 : decode cX6_sign 140 = .ok (.goto 12, 3) := by decide +kernel
theorem dX6_sign_143 : decode cX6_sign 143 = .ok (.aload_n 0, 1) := by decide +kernel
theorem dX6_sign_144 : decode cX6_sign 144 = .ok (.getfield 10, 3) := by decide +kernel
theorem dX6_sign_147 : decode cX6_sign 147 = .ok (.iload_n 1, 1) := by decide +kernel
theorem dX6_sign_148 : decode cX6_sign 148 = .ok (.iload_n 2, 1) := by decide +kernel
theorem dX6_sign_149 : decode cX6_sign 149 = .ok (.invokevirtual 213, 3) := by decide +kernel
theorem dX6_sign_152 : decode cX6_sign 152 = .ok (.ireturn, 1) := by decide +kernel
theorem dX6_sign_153 : decode cX6_sign 153 = .ok (.aload_n 0, 1) := by decide +kernel
theorem dX6_sign_154 : decode cX6_sign 154 = .ok (.iload_n 1, 1) := by decide +kernel
theorem dX6_sign_155 : decode cX6_sign 155 = .ok (.iload_n 2, 1) := by decide +kernel
theorem dX6_sign_156 : decode cX6_sign 156 = .ok (.aload_n 0, 1) := by decide +kernel
theorem dX6_sign_157 : decode cX6_sign 157 = .ok (.getfield 10, 3) := by decide +kernel
theorem dX6_sign_160 : decode cX6_sign 160 = .ok (.invokevirtual 140, 3) := by decide +kernel
theorem dX6_sign_163 : decode cX6_sign 163 = .ok (.invokevirtual 216, 3) := by decide +kernel
theorem dX6_sign_166 : decode cX6_sign 166 = .ok (.ireturn, 1) := by decide +kernel
theorem dX6_sign_167 : decode cX6_sign 167 = .ok (.sipush (-1002), 3) := by decide +kernel
theorem dX6_sign_170 : decode cX6_sign 170 = .ok (.ireturn, 1) := by decide +kernel
set_option maxRecDepth 20000 in
theorem ggX6_signBegin_X4_beginOf : GoodIn wsX6_signBegin wsX4_beginOf := goodIn_r _ [6, 7, 8, 9, 10, 11, 12, 13, 14, 15, 16, 17, 5, 18, 19, 20, 21, 22, 23, 24, 25, 26, 27, 28, 29, 30, 31, 32, 33, 34, 35, 36, 37, 38, 39, 40, 41, 42, 43, 44, 45, 46, 47, 48, 49, 50, 51, 52, 53, 54, 55, 56, 57, 58, 59, 60, 61, 62, 63, 64, 65, 66, 67, 68, 69, 70, 71, 72, 73, 74, 75, 76, 77, 78, 79, 80, 81, 82, 83, 84, 85, 86, 87, 88, 89, 90, 91, 98, 99, 100, 101, 102, 103, 104, 105, 106, 107, 108, 109, 110, 111, 112, 113, 114] (by decide +kernel) (by decide +kernel)
set_option maxRecDepth 20000 in
theorem gX6_signBegin_X4_beginOf : GoodIn wsX6_signBegin (wsV RX6 149 RX4 yX4_beginOf wsX4_beginOf) := goodIn_app (goodIn_of _ (by decide +kernel)) ggX6_signBegin_X4_beginOf
set_option maxRecDepth 20000 in
theorem ggX6_signBegin_X4_unitsBefore : GoodIn wsX6_signBegin wsX4_unitsBefore := goodIn_r _ [91, 40, 47, 48, 49, 44, 50, 51, 60, 61, 54, 62, 63, 64, 65, 5, 66, 67, 12, 13, 10, 14, 41, 42, 43, 45, 46, 68, 69, 70, 71, 72, 73, 74, 75, 76, 77, 78, 79, 80, 81, 82, 83, 98, 99, 100, 101, 102, 103, 104, 105, 106, 107, 108, 109, 110, 111, 112, 113, 114] (by decide +kernel) (by decide +kernel)
set_option maxRecDepth 20000 in
theorem gX6_signBegin_X4_unitsBefore : GoodIn wsX6_signBegin (wsV RX6 200 RX4 yX4_unitsBefore wsX4_unitsBefore) := goodIn_app (goodIn_of _ (by decide +kernel)) ggX6_signBegin_X4_unitsBefore
theorem dX6_signBegin_0 : decode cX6_signBegin 0 = .ok (.iload_n 3, 1) := by decide +kernel
theorem dX6_signBegin_1 : decode cX6_signBegin 1 = .ok (.ifCond .ne 7, 3) := by decide +kernel
theorem dX6_signBegin_4 : decode cX6_signBegin 4 = .ok (.sipush (-1005), 3) := by decide +kernel
theorem dX6_signBegin_7 : decode cX6_signBegin 7 = .ok (.ireturn, 1) := by decide +kernel
theorem dX6_signBegin_8 : decode cX6_signBegin 8 = .ok (.aload_n 0, 1) := by decide +kernel
theorem dX6_signBegin_9 : decode cX6_signBegin 9 = .ok (.getfield 10, 3) := by decide +kernel
theorem dX6_signBegin_12 : decode cX6_signBegin 12 = .ok (.iload_n 1, 1) := by decide +kernel
theorem dX6_signBegin_13 : decode cX6_signBegin 13 = .ok (.iload_n 3, 1) := by decide +kernel
theorem dX6_signBegin_14 : decode cX6_signBegin 14 = .ok (.invokevirtual 149, 3) := by decide +kernel
theorem dX6_signBegin_17 : decode cX6_signBegin 17 = .ok (.aload_n 0, 1) := by decide +kernel
theorem dX6_signBegin_18 : decode cX6_signBegin 18 = .ok (.getfield 10, 3) := by decide +kernel
theorem dX6_signBegin_21 : decode cX6_signBegin 21 = .ok (.iload_n 1, 1) := by decide +kernel
theorem dX6_signBegin_22 : decode cX6_signBegin 22 = .ok (.iload_n 2, 1) := by decide +kernel
theorem dX6_signBegin_23 : decode cX6_signBegin 23 = .ok (.invokevirtual 200, 3) := by decide +kernel
theorem dX6_signBegin_26 : decode cX6_signBegin 26 = .ok (.iload_n 3, 1) := by decide +kernel
theorem dX6_signBegin_27 : decode cX6_signBegin 27 = .ok (.imul, 1) := by decide +kernel
theorem dX6_signBegin_28 : decode cX6_signBegin 28 = .ok (.iadd, 1) := by decide +kernel
theorem dX6_signBegin_29 : decode cX6_signBegin 29 = .ok (.ireturn, 1) := by decide +kernel
set_option maxRecDepth 20000 in
theorem ggX6_signAt_X4_sizeNow : GoodIn wsX6_signAt wsX4_sizeNow := goodIn_r _ [6, 7, 8, 9, 10, 11, 12, 13, 5, 14, 15, 16, 17, 18, 19, 20, 21, 22, 23, 24, 25, 26, 27, 28, 29, 30, 31, 32, 33, 34, 35, 36, 37, 38, 39, 40, 41, 42, 43, 44, 45, 46, 47, 48, 49, 50, 51, 52, 53, 54, 55, 56, 57, 58, 59, 60, 61, 62, 63, 64, 65, 66, 67, 68, 69, 70, 71, 72, 73, 74, 75, 76, 77, 78, 79, 80, 81, 82, 83, 84, 85, 86, 87, 88, 132, 133, 134, 135, 136, 137, 138, 139, 140, 141, 142, 143, 144, 145, 146, 147, 148] (by decide +kernel) (by decide +kernel)
set_option maxRecDepth 20000 in
theorem gX6_signAt_X4_sizeNow : GoodIn wsX6_signAt (wsV RX6 140 RX4 yX4_sizeNow wsX4_sizeNow) := goodIn_app (goodIn_of _ (by decide +kernel)) ggX6_signAt_X4_sizeNow
set_option maxRecDepth 20000 in
theorem ggX6_signAt_X4_rowBegin : GoodIn wsX6_signAt wsX4_rowBegin := goodIn_r _ [92, 72, 93, 94, 95, 5, 96, 77, 78, 79, 80, 81, 82, 83, 84, 132, 133, 134, 135, 136, 137, 138, 139, 140, 141] (by decide +kernel) (by decide +kernel)
set_option maxRecDepth 20000 in
theorem gX6_signAt_X4_rowBegin : GoodIn wsX6_signAt (wsV RX6 187 RX4 yX4_rowBegin wsX4_rowBegin) := goodIn_app (goodIn_of _ (by decide +kernel)) ggX6_signAt_X4_rowBegin
set_option maxRecDepth 20000 in
theorem ggX6_signAt_X4_indexAt : GoodIn wsX6_signAt wsX4_indexAt := goodIn_r _ [100, 10, 101, 102, 103, 5, 104, 8, 105, 106, 22, 107, 20, 21, 23, 85, 86, 87, 88, 72, 77, 78, 79, 80, 81, 82, 83, 84, 108, 109, 110, 111, 112, 113, 114, 115, 116, 117, 118, 119, 28, 29, 30, 31, 32, 33, 38, 39, 40, 41, 42, 120, 121, 45, 122, 123, 124, 125, 126, 43, 44, 46, 47, 48, 49, 50, 51, 52, 53, 54, 55, 56, 57, 58, 59, 60, 61, 62, 63, 64, 65, 66, 67, 24, 25, 26, 27, 34, 35, 36, 37, 132, 133, 134, 135, 136, 137, 138, 139, 140, 141, 142, 143, 144, 145, 146, 147, 148] (by decide +kernel) (by decide +kernel)
set_option maxRecDepth 20000 in
theorem gX6_signAt_X4_indexAt : GoodIn wsX6_signAt (wsV RX6 219 RX4 yX4_indexAt wsX4_indexAt) := goodIn_app (goodIn_of _ (by decide +kernel)) ggX6_signAt_X4_indexAt
theorem dX6_signAt_0 : decode cX6_signAt 0 = .ok (.iload_n 1, 1) := by decide +kernel
theorem dX6_signAt_1 : decode cX6_signAt 1 = .ok (.ifCond .lt 7, 3) := by decide +kernel
theorem dX6_signAt_4 : decode cX6_signAt 4 = .ok (.iload_n 2, 1) := by decide +kernel
theorem dX6_signAt_5 : decode cX6_signAt 5 = .ok (.ifCond .ge 7, 3) := by decide +kernel
theorem dX6_signAt_8 : decode cX6_signAt 8 = .ok (.sipush (-1002), 3) := by decide +kernel
theorem dX6_signAt_11 : decode cX6_signAt 11 = .ok (.ireturn, 1) := by decide +kernel
theorem dX6_signAt_12 : decode cX6_signAt 12 = .ok (.aload_n 0, 1) := by decide +kernel
theorem dX6_signAt_13 : decode cX6_signAt 13 = .ok (.getfield 10, 3) := by decide +kernel
theorem dX6_signAt_16 : decode cX6_signAt 16 = .ok (.invokevirtual 140, 3) := by decide +kernel
theorem dX6_signAt_19 : decode cX6_signAt 19 = .ok (.istore_n 3, 1) := by decide +kernel
theorem dX6_signAt_20 : decode cX6_signAt 20 = .ok (.iload_n 3, 1) := by decide +kernel
theorem dX6_signAt_21 : decode cX6_signAt 21 = .ok (.ifCond .ne 7, 3) := by decide +kernel
theorem dX6_signAt_24 : decode cX6_signAt 24 = .ok (.sipush (-1005), 3) := by decide +kernel
theorem dX6_signAt_27 : decode cX6_signAt 27 = .ok (.ireturn, 1) := by decide +kernel
theorem dX6_signAt_28 : decode cX6_signAt 28 = .ok (.iconst 0, 1) := by decide +kernel
theorem dX6_signAt_29 : decode cX6_signAt 29 = .ok (.istore 4, 2) := by decide +kernel
theorem dX6_signAt_31 : decode cX6_signAt 31 = .ok (.iload 4, 2) := by decide +kernel
theorem dX6_signAt_33 : decode cX6_signAt 33 = .ok (.aload_n 0, 1) := by decide +kernel
theorem dX6_signAt_34 : decode cX6_signAt 34 = .ok (.getfield 10, 3) := by decide +kernel
theorem dX6_signAt_37 : decode cX6_signAt 37 = .ok (.getfield 102, 3) := by decide +kernel
theorem dX6_signAt_40 : decode cX6_signAt 40 = .ok (.getfield 106, 3) := by decide +kernel
theorem dX6_signAt_43 : decode cX6_signAt 43 = .ok (.if_icmp .ge 65, 3) := by decide +kernel
theorem dX6_signAt_46 : decode cX6_signAt 46 = .ok (.aload_n 0, 1) := by decide +kernel
theorem dX6_signAt_47 : decode cX6_signAt 47 = .ok (.getfield 10, 3) := by decide +kernel
theorem dX6_signAt_50 : decode cX6_signAt 50 = .ok (.iload 4, 2) := by decide +kernel
theorem dX6_signAt_52 : decode cX6_signAt 52 = .ok (.iload_n 3, 1) := by decide +kernel
theorem dX6_signAt_53 : decode cX6_signAt 53 = .ok (.invokevirtual 187, 3) := by decide +kernel
theorem dX6_signAt_56 : decode cX6_signAt 56 = .ok (.istore 5, 2) := by decide +kernel
theorem dX6_signAt_58 : decode cX6_signAt 58 = .ok (.iload_n 2, 1) := by decide +kernel
theorem dX6_signAt_59 : decode cX6_signAt 59 = .ok (.iload 5, 2) := by decide +kernel
theorem dX6_signAt_61 : decode cX6_signAt 61 = .ok (.if_icmp .lt 41, 3) := by decide +kernel
theorem dX6_signAt_64 : decode cX6_signAt 64 = .ok (.iload_n 2, 1) := by decide +kernel
theorem dX6_signAt_65 : decode cX6_signAt 65 = .ok (.iload 5, 2) := by decide +kernel
theorem dX6_signAt_67 : decode cX6_signAt 67 = .ok (.bipush 12, 2) := by decide +kernel
theorem dX6_signAt_69 : decode cX6_signAt 69 = .ok (.iload_n 3, 1) := by decide +kernel
theorem dX6_signAt_70 : decode cX6_signAt 70 = .ok (.imul, 1) := by decide +kernel
theorem dX6_signAt_71 : decode cX6_signAt 71 = .ok (.iadd, 1) := by decide +kernel
theorem dX6_signAt_72 : decode cX6_signAt 72 = .ok (.if_icmp .ge 30, 3) := by decide +kernel
theorem dX6_signAt_75 : decode cX6_signAt 75 = .ok (.aload_n 0, 1) := by decide +kernel
theorem dX6_signAt_76 : decode cX6_signAt 76 = .ok (.getfield 10, 3) := by decide +kernel
theorem dX6_signAt_79 : decode cX6_signAt 79 = .ok (.iload 4, 2) := by decide +kernel
theorem dX6_signAt_81 : decode cX6_signAt 81 = .ok (.iload_n 1, 1) := by decide +kernel
theorem dX6_signAt_82 : decode cX6_signAt 82 = .ok (.iload_n 3, 1) := by decide +kernel
theorem dX6_signAt_83 : decode cX6_signAt 83 = .ok (.invokevirtual 219, 3) := by decide +kernel
theorem dX6_signAt_86 : decode cX6_signAt 86 = .ok (.istore 6, 2) := by decide +kernel
theorem dX6_signAt_88 : decode cX6_signAt 88 = .ok (.iload 6, 2) := by decide +kernel
theorem dX6_signAt_90 : decode cX6_signAt 90 = .ok (.ifCond .lt 12, 3) := by decide +kernel
theorem dX6_signAt_93 : decode cX6_signAt 93 = .ok (.bipush 100, 2) := by decide +kernel
theorem dX6_signAt_95 : decode cX6_signAt 95 = .ok (.iload 4, 2) := by decide +kernel
theorem dX6_signAt_97 : decode cX6_signAt 97 = .ok (.imul, 1) := by decide +kernel
theorem dX6_signAt_98 : decode cX6_signAt 98 = .ok (.iload 6, 2) := by decide +kernel
theorem dX6_signAt_100 : decode cX6_signAt 100 = .ok (.iadd, 1) := by decide +kernel
theorem dX6_signAt_101 : decode cX6_signAt 101 = .ok (.ireturn, 1) := by decide +kernel
theorem dX6_signAt_102 : decode cX6_signAt 102 = .ok (.iinc 4 1, 3) := by decide +kernel
theorem dX6_signAt_105 : decode cX6_signAt 105 = .ok (.goto (-74), 3) := by decide +kernel
theorem dX6_signAt_108 : decode cX6_signAt 108 = .ok (.sipush (-1005), 3) := by decide +kernel
theorem dX6_signAt_111 : decode cX6_signAt 111 = .ok (.ireturn, 1) := by decide +kernel
set_option maxRecDepth 20000 in
theorem ggX6_size_X4_sizeNow : GoodIn wsX6_size wsX4_sizeNow := goodIn_r _ [6, 7, 8, 9, 10, 11, 12, 13, 5, 14, 15, 16, 17, 18, 19, 20, 21, 22, 23, 24, 25, 26, 27, 28, 29, 30, 31, 32, 33, 34, 35, 36, 37, 38, 39, 40, 41, 42, 43, 44, 45, 46, 47, 48, 49, 50, 51, 52, 53, 54, 55, 56, 57, 58, 59, 60, 61, 62, 63, 64, 65, 66, 67, 68, 69, 70, 71, 72, 73, 74, 75, 76, 77, 78, 79, 80, 81, 82, 83, 84, 85, 86, 87, 88, 94, 95, 96, 97, 98, 99, 100, 101, 102, 103, 104, 105, 106, 107, 108, 109, 110] (by decide +kernel) (by decide +kernel)
set_option maxRecDepth 20000 in
theorem gX6_size_X4_sizeNow : GoodIn wsX6_size (wsV RX6 140 RX4 yX4_sizeNow wsX4_sizeNow) := goodIn_app (goodIn_of _ (by decide +kernel)) ggX6_size_X4_sizeNow
theorem dX6_size_0 : decode cX6_size 0 = .ok (.aload_n 0, 1) := by decide +kernel
theorem dX6_size_1 : decode cX6_size 1 = .ok (.getfield 10, 3) := by decide +kernel
theorem dX6_size_4 : decode cX6_size 4 = .ok (.invokevirtual 140, 3) := by decide +kernel
theorem dX6_size_7 : decode cX6_size 7 = .ok (.ireturn, 1) := by decide +kernel
set_option maxRecDepth 20000 in
theorem ggX6_sizeBy_X6_isPlate : GoodIn wsX6_sizeBy wsX6_isPlate := goodIn_r _ [5] (by decide +kernel) (by decide +kernel)
set_option maxRecDepth 20000 in
theorem gX6_sizeBy_X6_isPlate : GoodIn wsX6_sizeBy (va_wsS RX6 37 yX6_isPlate wsX6_isPlate) := goodIn_app (goodIn_of _ (by decide +kernel)) ggX6_sizeBy_X6_isPlate
set_option maxRecDepth 20000 in
theorem ggX6_sizeBy_X4_mostUnits : GoodIn wsX6_sizeBy wsX4_mostUnits := goodIn_r _ [10, 11, 12, 13, 14, 15, 16, 17, 18, 9, 19, 20, 21, 22, 23, 24, 25, 26, 27, 28, 29, 30, 31, 32, 33, 34, 35, 36, 37, 38, 39, 40, 41, 42, 43, 44, 45, 46, 47, 48, 49, 50, 51, 52, 53, 54, 55, 56, 57, 58, 59, 86, 87, 88, 89, 90, 91, 92, 93, 94, 95, 96, 97, 98, 99, 100, 101, 102] (by decide +kernel) (by decide +kernel)
set_option maxRecDepth 20000 in
theorem gX6_sizeBy_X4_mostUnits : GoodIn wsX6_sizeBy (wsV RX6 222 RX4 yX4_mostUnits wsX4_mostUnits) := goodIn_app (goodIn_of _ (by decide +kernel)) ggX6_sizeBy_X4_mostUnits
set_option maxRecDepth 20000 in
theorem ggX6_sizeBy_X4_greatestSize : GoodIn wsX6_sizeBy wsX4_greatestSize := goodIn_r _ [63, 64, 65, 66, 67, 9, 68, 69, 70, 71, 72, 73, 74, 75, 76, 77, 78, 79, 80, 86, 87, 88, 89, 90, 91, 92, 93, 94, 95] (by decide +kernel) (by decide +kernel)
set_option maxRecDepth 20000 in
theorem gX6_sizeBy_X4_greatestSize : GoodIn wsX6_sizeBy (wsV RX6 225 RX4 yX4_greatestSize wsX4_greatestSize) := goodIn_app (goodIn_of _ (by decide +kernel)) ggX6_sizeBy_X4_greatestSize
theorem dX6_sizeBy_0 : decode cX6_sizeBy 0 = .ok (.iload_n 1, 1) := by decide +kernel
theorem dX6_sizeBy_1 : decode cX6_sizeBy 1 = .ok (.iload_n 2, 1) := by decide +kernel
theorem dX6_sizeBy_2 : decode cX6_sizeBy 2 = .ok (.invokestatic 37, 3) := by decide +kernel
theorem dX6_sizeBy_5 : decode cX6_sizeBy 5 = .ok (.ifCond .ne 7, 3) := by decide +kernel
theorem dX6_sizeBy_8 : decode cX6_sizeBy 8 = .ok (.sipush (-1002), 3) := by decide +kernel
theorem dX6_sizeBy_11 : decode cX6_sizeBy 11 = .ok (.ireturn, 1) := by decide +kernel
theorem dX6_sizeBy_12 : decode cX6_sizeBy 12 = .ok (.aload_n 0, 1) := by decide +kernel
theorem dX6_sizeBy_13 : decode cX6_sizeBy 13 = .ok (.getfield 10, 3) := by decide +kernel
theorem dX6_sizeBy_16 : decode cX6_sizeBy 16 = .ok (.iload_n 1, 1) := by decide +kernel
theorem dX6_sizeBy_17 : decode cX6_sizeBy 17 = .ok (.iload_n 2, 1) := by decide +kernel
theorem dX6_sizeBy_18 : decode cX6_sizeBy 18 = .ok (.aload_n 0, 1) := by decide +kernel
theorem dX6_sizeBy_19 : decode cX6_sizeBy 19 = .ok (.getfield 10, 3) := by decide +kernel
theorem dX6_sizeBy_22 : decode cX6_sizeBy 22 = .ok (.getfield 102, 3) := by decide +kernel
theorem dX6_sizeBy_25 : decode cX6_sizeBy 25 = .ok (.getfield 106, 3) := by decide +kernel
theorem dX6_sizeBy_28 : decode cX6_sizeBy 28 = .ok (.aload_n 0, 1) := by decide +kernel
theorem dX6_sizeBy_29 : decode cX6_sizeBy 29 = .ok (.getfield 10, 3) := by decide +kernel
theorem dX6_sizeBy_32 : decode cX6_sizeBy 32 = .ok (.iconst (-1), 1) := by decide +kernel
theorem dX6_sizeBy_33 : decode cX6_sizeBy 33 = .ok (.invokevirtual 222, 3) := by decide +kernel
theorem dX6_sizeBy_36 : decode cX6_sizeBy 36 = .ok (.invokevirtual 225, 3) := by decide +kernel
theorem dX6_sizeBy_39 : decode cX6_sizeBy 39 = .ok (.ireturn, 1) := by decide +kernel
set_option maxRecDepth 20000 in
theorem ggX6_sizeWithout_X1_isTaken : GoodIn wsX6_sizeWithout wsX1_isTaken := goodIn_r _ [6, 7, 97, 98, 99] (by decide +kernel) (by decide +kernel)
set_option maxRecDepth 20000 in
theorem gX6_sizeWithout_X1_isTaken : GoodIn wsX6_sizeWithout (wsV RX6 122 RX1 yX1_isTaken wsX1_isTaken) := goodIn_app (goodIn_of _ (by decide +kernel)) ggX6_sizeWithout_X1_isTaken
set_option maxRecDepth 20000 in
theorem ggX6_sizeWithout_X4_mostUnits : GoodIn wsX6_sizeWithout wsX4_mostUnits := goodIn_r _ [12, 13, 14, 15, 16, 17, 18, 19, 20, 11, 21, 22, 23, 24, 5, 25, 26, 27, 28, 29, 30, 31, 32, 33, 34, 35, 36, 37, 38, 39, 40, 41, 42, 43, 44, 45, 46, 47, 48, 49, 50, 51, 52, 53, 54, 55, 56, 57, 58, 59, 60, 87, 88, 89, 90, 91, 92, 93, 94, 95, 96, 97, 98, 99, 100, 101, 102, 103] (by decide +kernel) (by decide +kernel)
set_option maxRecDepth 20000 in
theorem gX6_sizeWithout_X4_mostUnits : GoodIn wsX6_sizeWithout (wsV RX6 222 RX4 yX4_mostUnits wsX4_mostUnits) := goodIn_app (goodIn_of _ (by decide +kernel)) ggX6_sizeWithout_X4_mostUnits
set_option maxRecDepth 20000 in
theorem ggX6_sizeWithout_X4_greatestSize : GoodIn wsX6_sizeWithout wsX4_greatestSize := goodIn_r _ [64, 65, 66, 67, 68, 11, 69, 70, 71, 72, 73, 74, 75, 76, 77, 78, 79, 80, 81, 87, 88, 89, 90, 91, 92, 93, 94, 95, 96] (by decide +kernel) (by decide +kernel)
set_option maxRecDepth 20000 in
theorem gX6_sizeWithout_X4_greatestSize : GoodIn wsX6_sizeWithout (wsV RX6 225 RX4 yX4_greatestSize wsX4_greatestSize) := goodIn_app (goodIn_of _ (by decide +kernel)) ggX6_sizeWithout_X4_greatestSize
theorem dX6_sizeWithout_0 : decode cX6_sizeWithout 0 = .ok (.aload_n 0, 1) := by decide +kernel
theorem dX6_sizeWithout_1 : decode cX6_sizeWithout 1 = .ok (.getfield 10, 3) := by decide +kernel
theorem dX6_sizeWithout_4 : decode cX6_sizeWithout 4 = .ok (.getfield 102, 3) := by decide +kernel
theorem dX6_sizeWithout_7 : decode cX6_sizeWithout 7 = .ok (.iload_n 1, 1) := by decide +kernel
theorem dX6_sizeWithout_8 : decode cX6_sizeWithout 8 = .ok (.invokevirtual 122, 3) := by decide +kernel
theorem dX6_sizeWithout_11 : decode cX6_sizeWithout 11 = .ok (.ifCond .ne 7, 3) := by decide +kernel
theorem dX6_sizeWithout_14 : decode cX6_sizeWithout 14 = .ok (.sipush (-1001), 3) := by decide +kernel
theorem dX6_sizeWithout_17 : decode cX6_sizeWithout 17 = .ok (.ireturn, 1) := by decide +kernel
theorem dX6_sizeWithout_18 : decode cX6_sizeWithout 18 = .ok (.aload_n 0, 1) := by decide +kernel
theorem dX6_sizeWithout_19 : decode cX6_sizeWithout 19 = .ok (.getfield 10, 3) := by decide +kernel
theorem dX6_sizeWithout_22 : decode cX6_sizeWithout 22 = .ok (.aload_n 0, 1) := by decide +kernel
theorem dX6_sizeWithout_23 : decode cX6_sizeWithout 23 = .ok (.getfield 10, 3) := by decide +kernel
theorem dX6_sizeWithout_26 : decode cX6_sizeWithout 26 = .ok (.getfield 229, 3) := by decide +kernel
theorem dX6_sizeWithout_29 : decode cX6_sizeWithout 29 = .ok (.aload_n 0, 1) := by decide +kernel
theorem dX6_sizeWithout_30 : decode cX6_sizeWithout 30 = .ok (.getfield 10, 3) := by decide +kernel
theorem dX6_sizeWithout_33 : decode cX6_sizeWithout 33 = .ok (.getfield 231, 3) := by decide +kernel
theorem dX6_sizeWithout_36 : decode cX6_sizeWithout 36 = .ok (.aload_n 0, 1) := by decide +kernel
theorem dX6_sizeWithout_37 : decode cX6_sizeWithout 37 = .ok (.getfield 10, 3) := by decide +kernel
theorem dX6_sizeWithout_40 : decode cX6_sizeWithout 40 = .ok (.getfield 102, 3) := by decide +kernel
theorem dX6_sizeWithout_43 : decode cX6_sizeWithout 43 = .ok (.getfield 106, 3) := by decide +kernel
theorem dX6_sizeWithout_46 : decode cX6_sizeWithout 46 = .ok (.iconst 1, 1) := by decide +kernel
theorem dX6_sizeWithout_47 : decode cX6_sizeWithout 47 = .ok (.isub, 1) := by decide +kernel
theorem dX6_sizeWithout_48 : decode cX6_sizeWithout 48 = .ok (.aload_n 0, 1) := by decide +kernel
theorem dX6_sizeWithout_49 : decode cX6_sizeWithout 49 = .ok (.getfield 10, 3) := by decide +kernel
theorem dX6_sizeWithout_52 : decode cX6_sizeWithout 52 = .ok (.iload_n 1, 1) := by decide +kernel
theorem dX6_sizeWithout_53 : decode cX6_sizeWithout 53 = .ok (.invokevirtual 222, 3) := by decide +kernel
theorem dX6_sizeWithout_56 : decode cX6_sizeWithout 56 = .ok (.invokevirtual 225, 3) := by decide +kernel
theorem dX6_sizeWithout_59 : decode cX6_sizeWithout 59 = .ok (.ireturn, 1) := by decide +kernel
set_option maxRecDepth 20000 in
theorem ggX6_leastWidth_X4_mostUnits : GoodIn wsX6_leastWidth wsX4_mostUnits := goodIn_r _ [10, 11, 12, 3, 4, 5, 13, 14, 15, 9, 16, 17, 18, 19, 20, 21, 22, 23, 24, 25, 26, 27, 28, 29, 30, 31, 32, 33, 34, 35, 36, 37, 38, 39, 40, 41, 42, 43, 44, 45, 46, 47, 48, 49, 50, 51, 52, 53, 54, 55, 56, 62, 63, 64, 65, 66, 67, 68, 69, 70, 71, 72, 73, 74, 75, 76, 77, 78] (by decide +kernel) (by decide +kernel)
set_option maxRecDepth 20000 in
theorem gX6_leastWidth_X4_mostUnits : GoodIn wsX6_leastWidth (wsV RX6 222 RX4 yX4_mostUnits wsX4_mostUnits) := goodIn_app (goodIn_of _ (by decide +kernel)) ggX6_leastWidth_X4_mostUnits
theorem dX6_leastWidth_0 : decode cX6_leastWidth 0 = .ok (.iload_n 1, 1) := by decide +kernel
theorem dX6_leastWidth_1 : decode cX6_leastWidth 1 = .ok (.iconst 1, 1) := by decide +kernel
theorem dX6_leastWidth_2 : decode cX6_leastWidth 2 = .ok (.if_icmp .lt 9, 3) := by decide +kernel
theorem dX6_leastWidth_5 : decode cX6_leastWidth 5 = .ok (.iload_n 1, 1) := by decide +kernel
theorem dX6_leastWidth_6 : decode cX6_leastWidth 6 = .ok (.bipush 40, 2) := by decide +kernel
theorem dX6_leastWidth_8 : decode cX6_leastWidth 8 = .ok (.if_icmp .le 7, 3) := by decide +kernel
theorem dX6_leastWidth_11 : decode cX6_leastWidth 11 = .ok (.sipush (-1002), 3) := by decide +kernel
theorem dX6_leastWidth_14 : decode cX6_leastWidth 14 = .ok (.ireturn, 1) := by decide +kernel
theorem dX6_leastWidth_15 : decode cX6_leastWidth 15 = .ok (.aload_n 0, 1) := by decide +kernel
theorem dX6_leastWidth_16 : decode cX6_leastWidth 16 = .ok (.getfield 10, 3) := by decide +kernel
theorem dX6_leastWidth_19 : decode cX6_leastWidth 19 = .ok (.getfield 102, 3) := by decide +kernel
theorem dX6_leastWidth_22 : decode cX6_leastWidth 22 = .ok (.getfield 106, 3) := by decide +kernel
theorem dX6_leastWidth_25 : decode cX6_leastWidth 25 = .ok (.ifCond .ne 7, 3) := by decide +kernel
theorem dX6_leastWidth_28 : decode cX6_leastWidth 28 = .ok (.sipush (-1005), 3) := by decide +kernel
theorem dX6_leastWidth_31 : decode cX6_leastWidth 31 = .ok (.ireturn, 1) := by decide +kernel
theorem dX6_leastWidth_32 : decode cX6_leastWidth 32 = .ok (.iconst 2, 1) := by decide +kernel
theorem dX6_leastWidth_33 : decode cX6_leastWidth 33 = .ok (.aload_n 0, 1) := by decide +kernel
theorem dX6_leastWidth_34 : decode cX6_leastWidth 34 = .ok (.getfield 10, 3) := by decide +kernel
theorem dX6_leastWidth_37 : decode cX6_leastWidth 37 = .ok (.getfield 53, 3) := by decide +kernel
theorem dX6_leastWidth_40 : decode cX6_leastWidth 40 = .ok (.imul, 1) := by decide +kernel
theorem dX6_leastWidth_41 : decode cX6_leastWidth 41 = .ok (.aload_n 0, 1) := by decide +kernel
theorem dX6_leastWidth_42 : decode cX6_leastWidth 42 = .ok (.getfield 10, 3) := by decide +kernel
theorem dX6_leastWidth_45 : decode cX6_leastWidth 45 = .ok (.getfield 57, 3) := by decide +kernel
theorem dX6_leastWidth_48 : decode cX6_leastWidth 48 = .ok (.aload_n 0, 1) := by decide +kernel
theorem dX6_leastWidth_49 : decode cX6_leastWidth 49 = .ok (.getfield 10, 3) := by decide +kernel
theorem dX6_leastWidth_52 : decode cX6_leastWidth 52 = .ok (.iconst (-1), 1) := by decide +kernel
theorem dX6_leastWidth_53 : decode cX6_leastWidth 53 = .ok (.invokevirtual 222, 3) := by decide +kernel
theorem dX6_leastWidth_56 : decode cX6_leastWidth 56 = .ok (.imul, 1) := by decide +kernel
theorem dX6_leastWidth_57 : decode cX6_leastWidth 57 = .ok (.iload_n 1, 1) := by decide +kernel
theorem dX6_leastWidth_58 : decode cX6_leastWidth 58 = .ok (.imul, 1) := by decide +kernel
theorem dX6_leastWidth_59 : decode cX6_leastWidth 59 = .ok (.iadd, 1) := by decide +kernel
theorem dX6_leastWidth_60 : decode cX6_leastWidth 60 = .ok (.istore_n 2, 1) := by decide +kernel
theorem dX6_leastWidth_61 : decode cX6_leastWidth 61 = .ok (.sipush 300, 3) := by decide +kernel
theorem dX6_leastWidth_64 : decode cX6_leastWidth 64 = .ok (.iload_n 2, 1) := by decide +kernel
theorem dX6_leastWidth_65 : decode cX6_leastWidth 65 = .ok (.invokestatic 234, 3) := by decide +kernel
theorem dX6_leastWidth_68 : decode cX6_leastWidth 68 = .ok (.ireturn, 1) := by decide +kernel
set_option maxRecDepth 20000 in
theorem ggX6_longest_X4_mostUnits : GoodIn wsX6_longest wsX4_mostUnits := goodIn_r _ [6, 7, 8, 9, 10, 11, 12, 13, 14, 5, 15, 16, 17, 18, 19, 20, 21, 22, 23, 24, 25, 26, 27, 28, 29, 30, 31, 32, 33, 34, 35, 36, 37, 38, 39, 40, 41, 42, 43, 44, 45, 46, 47, 48, 49, 50, 51, 52, 53, 54, 55, 62, 63, 64, 65, 66, 67, 68, 69, 70, 71, 72, 73, 74, 75, 76, 77, 78] (by decide +kernel) (by decide +kernel)
set_option maxRecDepth 20000 in
theorem gX6_longest_X4_mostUnits : GoodIn wsX6_longest (wsV RX6 222 RX4 yX4_mostUnits wsX4_mostUnits) := goodIn_app (goodIn_of _ (by decide +kernel)) ggX6_longest_X4_mostUnits
set_option maxRecDepth 20000 in
theorem ggX6_longest_X4_unitsOf : GoodIn wsX6_longest wsX4_unitsOf := goodIn_r _ [15, 7, 16, 17, 18, 19, 20, 21, 22, 23, 24, 5, 25, 26, 27, 28, 29, 30, 31, 32, 33, 34, 35, 36, 37, 38, 39, 8, 9, 10, 11, 40, 41, 42, 43, 44, 45, 46, 47, 48, 49, 50, 51, 52, 53, 54, 55, 62, 63, 64, 65, 66, 67, 68, 69, 70, 71, 72, 73, 74, 75, 76, 77, 78] (by decide +kernel) (by decide +kernel)
set_option maxRecDepth 20000 in
theorem gX6_longest_X4_unitsOf : GoodIn wsX6_longest (wsV RX6 171 RX4 yX4_unitsOf wsX4_unitsOf) := goodIn_app (goodIn_of _ (by decide +kernel)) ggX6_longest_X4_unitsOf
theorem dX6_longest_0 : decode cX6_longest 0 = .ok (.aload_n 0, 1) := by decide +kernel
theorem dX6_longest_1 : decode cX6_longest 1 = .ok (.getfield 10, 3) := by decide +kernel
theorem dX6_longest_4 : decode cX6_longest 4 = .ok (.iconst (-1), 1) := by decide +kernel
theorem dX6_longest_5 : decode cX6_longest 5 = .ok (.invokevirtual 222, 3) := by decide +kernel
theorem dX6_longest_8 : decode cX6_longest 8 = .ok (.istore_n 1, 1) := by decide +kernel
theorem dX6_longest_9 : decode cX6_longest 9 = .ok (.iconst 0, 1) := by decide +kernel
theorem dX6_longest_10 : decode cX6_longest 10 = .ok (.istore_n 2, 1) := by decide +kernel
theorem dX6_longest_11 : decode cX6_longest 11 = .ok (.iload_n 2, 1) := by decide +kernel
theorem dX6_longest_12 : decode cX6_longest 12 = .ok (.aload_n 0, 1) := by decide +kernel
theorem dX6_longest_13 : decode cX6_longest 13 = .ok (.getfield 10, 3) := by decide +kernel
theorem dX6_longest_16 : decode cX6_longest 16 = .ok (.getfield 102, 3) := by decide +kernel
theorem dX6_longest_19 : decode cX6_longest 19 = .ok (.getfield 106, 3) := by decide +kernel
theorem dX6_longest_22 : decode cX6_longest 22 = .ok (.if_icmp .ge 23, 3) := by decide +kernel
theorem dX6_longest_25 : decode cX6_longest 25 = .ok (.aload_n 0, 1) := by decide +kernel
theorem dX6_longest_26 : decode cX6_longest 26 = .ok (.getfield 10, 3) := by decide +kernel
theorem dX6_longest_29 : decode cX6_longest 29 = .ok (.iload_n 2, 1) := by decide +kernel
theorem dX6_longest_30 : decode cX6_longest 30 = .ok (.invokevirtual 171, 3) := by decide +kernel
theorem dX6_longest_33 : decode cX6_longest 33 = .ok (.iload_n 1, 1) := by decide +kernel
theorem dX6_longest_34 : decode cX6_longest 34 = .ok (.if_icmp .ne 5, 3) := by decide +kernel
theorem dX6_longest_37 : decode cX6_longest 37 = .ok (.iload_n 2, 1) := by decide +kernel
theorem dX6_longest_38 : decode cX6_longest 38 = .ok (.ireturn, 1) := by decide +kernel
theorem dX6_longest_39 : decode cX6_longest 39 = .ok (.iinc 2 1, 3) := by decide +kernel
theorem dX6_longest_42 : decode cX6_longest 42 = .ok (.goto (-31), 3) := by decide +kernel
theorem dX6_longest_45 : decode cX6_longest 45 = .ok (.sipush (-1005), 3) := by decide +kernel
theorem dX6_longest_48 : decode cX6_longest 48 = .ok (.ireturn, 1) := by decide +kernel
set_option maxRecDepth 20000 in
theorem ggX6_adjustment_X3_isKnown : GoodIn wsX6_adjustment wsX3_isKnown := goodIn_r _ [5, 6, 7, 4, 8, 9, 10, 11] (by decide +kernel) (by decide +kernel)
set_option maxRecDepth 20000 in
theorem gX6_adjustment_X3_isKnown : GoodIn wsX6_adjustment (va_wsS RX6 60 yX3_isKnown wsX3_isKnown) := goodIn_app (goodIn_of _ (by decide +kernel)) ggX6_adjustment_X3_isKnown
set_option maxRecDepth 20000 in
theorem ggX6_adjustment_X4_adjustmentOf : GoodIn wsX6_adjustment wsX4_adjustmentOf := goodIn_r _ [16, 17, 18, 19, 20, 21, 22, 23, 24, 25, 26, 27, 28, 29, 30, 36, 37, 38, 39, 40, 41, 42, 43, 44, 45, 46, 47, 48, 49] (by decide +kernel) (by decide +kernel)
set_option maxRecDepth 20000 in
theorem gX6_adjustment_X4_adjustmentOf : GoodIn wsX6_adjustment (wsV RX6 70 RX4 yX4_adjustmentOf wsX4_adjustmentOf) := goodIn_app (goodIn_of _ (by decide +kernel)) ggX6_adjustment_X4_adjustmentOf
theorem dX6_adjustment_0 : decode cX6_adjustment 0 = .ok (.iload_n 1, 1) := by decide +kernel
theorem dX6_adjustment_1 : decode cX6_adjustment 1 = .ok (.invokestatic 60, 3) := by decide +kernel
theorem dX6_adjustment_4 : decode cX6_adjustment 4 = .ok (.ifCond .eq 10, 3) := by decide +kernel
theorem dX6_adjustment_7 : decode cX6_adjustment 7 = .ok (.iload_n 2, 1) := by decide +kernel
theorem dX6_adjustment_8 : decode cX6_adjustment 8 = .ok (.invokestatic 60, 3) := by decide +kernel
theorem dX6_adjustment_11 : decode cX6_adjustment 11 = .ok (.ifCond .ne 7, 3) := by decide +kernel
theorem dX6_adjustment_14 : decode cX6_adjustment 14 = .ok (.sipush (-1001), 3) := by decide +kernel
theorem dX6_adjustment_17 : decode cX6_adjustment 17 = .ok (.ireturn, 1) := by decide +kernel
theorem dX6_adjustment_18 : decode cX6_adjustment 18 = .ok (.aload_n 0, 1) := by decide +kernel
theorem dX6_adjustment_19 : decode cX6_adjustment 19 = .ok (.getfield 10, 3) := by decide +kernel
theorem dX6_adjustment_22 : decode cX6_adjustment 22 = .ok (.iload_n 1, 1) := by decide +kernel
theorem dX6_adjustment_23 : decode cX6_adjustment 23 = .ok (.iload_n 2, 1) := by decide +kernel
theorem dX6_adjustment_24 : decode cX6_adjustment 24 = .ok (.invokevirtual 70, 3) := by decide +kernel
theorem dX6_adjustment_27 : decode cX6_adjustment 27 = .ok (.ireturn, 1) := by decide +kernel
set_option maxRecDepth 20000 in
theorem ggX6_pair_X2_isPlace : GoodIn wsX6_pair wsX2_isPlace := goodIn_r _ [6, 7, 39, 40, 41, 42] (by decide +kernel) (by decide +kernel)
set_option maxRecDepth 20000 in
theorem gX6_pair_X2_isPlace : GoodIn wsX6_pair (wsV RX6 239 RX2 yX2_isPlace wsX2_isPlace) := goodIn_app (goodIn_of _ (by decide +kernel)) ggX6_pair_X2_isPlace
set_option maxRecDepth 20000 in
theorem ggX6_pair_X2_leftAt : GoodIn wsX6_pair wsX2_leftAt := goodIn_r _ [11, 12, 13, 3, 4, 5, 6, 7, 39, 40, 41, 42] (by decide +kernel) (by decide +kernel)
set_option maxRecDepth 20000 in
theorem gX6_pair_X2_leftAt : GoodIn wsX6_pair (wsV RX6 242 RX2 yX2_leftAt wsX2_leftAt) := goodIn_app (goodIn_of _ (by decide +kernel)) ggX6_pair_X2_leftAt
set_option maxRecDepth 20000 in
theorem ggX6_pair_X2_rightAt : GoodIn wsX6_pair wsX2_rightAt := goodIn_r _ [17, 18, 13, 3, 4, 5, 6, 7, 39, 40, 41, 42] (by decide +kernel) (by decide +kernel)
set_option maxRecDepth 20000 in
theorem gX6_pair_X2_rightAt : GoodIn wsX6_pair (wsV RX6 245 RX2 yX2_rightAt wsX2_rightAt) := goodIn_app (goodIn_of _ (by decide +kernel)) ggX6_pair_X2_rightAt
set_option maxRecDepth 20000 in
theorem ggX6_pair_X2_adjustmentAt : GoodIn wsX6_pair wsX2_adjustmentAt := goodIn_r _ [22, 7, 23, 39, 40, 41, 42] (by decide +kernel) (by decide +kernel)
set_option maxRecDepth 20000 in
theorem gX6_pair_X2_adjustmentAt : GoodIn wsX6_pair (wsV RX6 248 RX2 yX2_adjustmentAt wsX2_adjustmentAt) := goodIn_app (goodIn_of _ (by decide +kernel)) ggX6_pair_X2_adjustmentAt
theorem dX6_pair_0 : decode cX6_pair 0 = .ok (.iload_n 1, 1) := by decide +kernel
theorem dX6_pair_1 : decode cX6_pair 1 = .ok (.ifCond .lt 12, 3) := by decide +kernel
theorem dX6_pair_4 : decode cX6_pair 4 = .ok (.iload_n 2, 1) := by decide +kernel
theorem dX6_pair_5 : decode cX6_pair 5 = .ok (.ifCond .lt 8, 3) := by decide +kernel
theorem dX6_pair_8 : decode cX6_pair 8 = .ok (.iload_n 2, 1) := by decide +kernel
theorem dX6_pair_9 : decode cX6_pair 9 = .ok (.iconst 2, 1) := by decide +kernel
theorem dX6_pair_10 : decode cX6_pair 10 = .ok (.if_icmp .le 7, 3) := by decide +kernel
theorem dX6_pair_13 : decode cX6_pair 13 = .ok (.sipush (-1002), 3) := by decide +kernel
theorem dX6_pair_16 : decode cX6_pair 16 = .ok (.ireturn, 1) := by decide +kernel
theorem dX6_pair_17 : decode cX6_pair 17 = .ok (.aload_n 0, 1) := by decide +kernel
theorem dX6_pair_18 : decode cX6_pair 18 = .ok (.getfield 10, 3) := by decide +kernel
theorem dX6_pair_21 : decode cX6_pair 21 = .ok (.getfield 74, 3) := by decide +kernel
theorem dX6_pair_24 : decode cX6_pair 24 = .ok (.iload_n 1, 1) := by decide +kernel
theorem dX6_pair_25 : decode cX6_pair 25 = .ok (.invokevirtual 239, 3) := by decide +kernel
theorem dX6_pair_28 : decode cX6_pair 28 = .ok (.ifCond .ne 7, 3) := by decide +kernel
theorem dX6_pair_31 : decode cX6_pair 31 = .ok (.sipush (-1005), 3) := by decide +kernel
theorem dX6_pair_34 : decode cX6_pair 34 = .ok (.ireturn, 1) := by decide +kernel
theorem dX6_pair_35 : decode cX6_pair 35 = .ok (.iload_n 2, 1) := by decide +kernel
theorem dX6_pair_36 : decode cX6_pair 36 = .ok (.lookupswitch 52 #[(0, 28), (1, 40)], 28) := by decide +kernel
theorem dX6_pair_64 : decode cX6_pair 64 = .ok (.aload_n 0, 1) := by decide +kernel
theorem dX6_pair_65 : decode cX6_pair 65 = .ok (.getfield 10, 3) := by decide +kernel
theorem dX6_pair_68 : decode cX6_pair 68 = .ok (.getfield 74, 3) := by decide +kernel
theorem dX6_pair_71 : decode cX6_pair 71 = .ok (.iload_n 1, 1) := by decide +kernel
theorem dX6_pair_72 : decode cX6_pair 72 = .ok (.invokevirtual 242, 3) := by decide +kernel
theorem dX6_pair_75 : decode cX6_pair 75 = .ok (.ireturn, 1) := by decide +kernel
theorem dX6_pair_76 : decode cX6_pair 76 = .ok (.aload_n 0, 1) := by decide +kernel
theorem dX6_pair_77 : decode cX6_pair 77 = .ok (.getfield 10, 3) := by decide +kernel
theorem dX6_pair_80 : decode cX6_pair 80 = .ok (.getfield 74, 3) := by decide +kernel
theorem dX6_pair_83 : decode cX6_pair 83 = .ok (.iload_n 1, 1) := by decide +kernel
theorem dX6_pair_84 : decode cX6_pair 84 = .ok (.invokevirtual 245, 3) := by decide +kernel
theorem dX6_pair_87 : decode cX6_pair 87 = .ok (.ireturn, 1) := by decide +kernel
theorem dX6_pair_88 : decode cX6_pair 88 = .ok (.aload_n 0, 1) := by decide +kernel
theorem dX6_pair_89 : decode cX6_pair 89 = .ok (.getfield 10, 3) := by decide +kernel
theorem dX6_pair_92 : decode cX6_pair 92 = .ok (.getfield 74, 3) := by decide +kernel
theorem dX6_pair_95 : decode cX6_pair 95 = .ok (.iload_n 1, 1) := by decide +kernel
theorem dX6_pair_96 : decode cX6_pair 96 = .ok (.invokevirtual 248, 3) := by decide +kernel
theorem dX6_pair_99 : decode cX6_pair 99 = .ok (.ireturn, 1) := by decide +kernel
set_option maxRecDepth 20000 in
theorem ggX6_count_X4_engravedNames : GoodIn wsX6_count wsX4_engravedNames := goodIn_r _ [8, 9, 10, 11, 12, 13, 14, 15, 16, 34, 35, 36, 37, 38, 39, 40, 41, 42, 43] (by decide +kernel) (by decide +kernel)
set_option maxRecDepth 20000 in
theorem gX6_count_X4_engravedNames : GoodIn wsX6_count (wsV RX6 251 RX4 yX4_engravedNames wsX4_engravedNames) := goodIn_app (goodIn_of _ (by decide +kernel)) ggX6_count_X4_engravedNames
set_option maxRecDepth 20000 in
theorem ggX6_count_X4_rowsFor : GoodIn wsX6_count wsX4_rowsFor := goodIn_r _ [20, 21, 22, 23, 7, 24, 25, 26, 27, 28, 34, 35, 36, 37, 38, 39, 40, 41, 42, 43] (by decide +kernel) (by decide +kernel)
set_option maxRecDepth 20000 in
theorem gX6_count_X4_rowsFor : GoodIn wsX6_count (wsV RX6 254 RX4 yX4_rowsFor wsX4_rowsFor) := goodIn_app (goodIn_of _ (by decide +kernel)) ggX6_count_X4_rowsFor
theorem dX6_count_0 : decode cX6_count 0 = .ok (.iload_n 1, 1) := by decide +kernel
theorem dX6_count_1 : decode cX6_count 1 = .ok (.tableswitch 175 0 11 #[63, 71, 79, 87, 95, 106, 114, 132, 140, 148, 159, 167], 63) := by decide +kernel
theorem dX6_count_64 : decode cX6_count 64 = .ok (.aload_n 0, 1) := by decide +kernel
theorem dX6_count_65 : decode cX6_count 65 = .ok (.getfield 10, 3) := by decide +kernel
theorem dX6_count_68 : decode cX6_count 68 = .ok (.getfield 229, 3) := by decide +kernel
theorem dX6_count_71 : decode cX6_count 71 = .ok (.ireturn, 1) := by decide +kernel
theorem dX6_count_72 : decode cX6_count 72 = .ok (.aload_n 0, 1) := by decide +kernel
theorem dX6_count_73 : decode cX6_count 73 = .ok (.getfield 10, 3) := by decide +kernel
theorem dX6_count_76 : decode cX6_count 76 = .ok (.getfield 231, 3) := by decide +kernel
theorem dX6_count_79 : decode cX6_count 79 = .ok (.ireturn, 1) := by decide +kernel
theorem dX6_count_80 : decode cX6_count 80 = .ok (.aload_n 0, 1) := by decide +kernel
theorem dX6_count_81 : decode cX6_count 81 = .ok (.getfield 10, 3) := by decide +kernel
theorem dX6_count_84 : decode cX6_count 84 = .ok (.getfield 53, 3) := by decide +kernel
theorem dX6_count_87 : decode cX6_count 87 = .ok (.ireturn, 1) := by decide +kernel
theorem dX6_count_88 : decode cX6_count 88 = .ok (.aload_n 0, 1) := by decide +kernel
theorem dX6_count_89 : decode cX6_count 89 = .ok (.getfield 10, 3) := by decide +kernel
theorem dX6_count_92 : decode cX6_count 92 = .ok (.getfield 57, 3) := by decide +kernel
theorem dX6_count_95 : decode cX6_count 95 = .ok (.ireturn, 1) := by decide +kernel
theorem dX6_count_96 : decode cX6_count 96 = .ok (.aload_n 0, 1) := by decide +kernel
theorem dX6_count_97 : decode cX6_count 97 = .ok (.getfield 10, 3) := by decide +kernel
theorem dX6_count_100 : decode cX6_count 100 = .ok (.getfield 102, 3) := by decide +kernel
theorem dX6_count_103 : decode cX6_count 103 = .ok (.getfield 106, 3) := by decide +kernel
theorem dX6_count_106 : decode cX6_count 106 = .ok (.ireturn, 1) := by decide +kernel
theorem dX6_count_107 : decode cX6_count 107 = .ok (.aload_n 0, 1) := by decide +kernel
theorem dX6_count_108 : decode cX6_count 108 = .ok (.getfield 10, 3) := by decide +kernel
theorem dX6_count_111 : decode cX6_count 111 = .ok (.invokevirtual 251, 3) := by decide +kernel
theorem dX6_count_114 : decode cX6_count 114 = .ok (.ireturn, 1) := by decide +kernel
theorem dX6_count_115 : decode cX6_count 115 = .ok (.aload_n 0, 1) := by decide +kernel
theorem dX6_count_116 : decode cX6_count 116 = .ok (.getfield 10, 3) := by decide +kernel
theorem dX6_count_119 : decode cX6_count 119 = .ok (.aload_n 0, 1) := by decide +kernel
theorem dX6_count_120 : decode cX6_count 120 = .ok (.getfield 10, 3) := by decide +kernel
theorem dX6_count_123 : decode cX6_count 123 = .ok (.getfield 102, 3) := by decide +kernel
theorem dX6_count_126 : decode cX6_count 126 = .ok (.getfield 106, 3) := by decide +kernel
theorem dX6_count_129 : decode cX6_count 129 = .ok (.invokevirtual 254, 3) := by decide +kernel
theorem dX6_count_132 : decode cX6_count 132 = .ok (.ireturn, 1) := by decide +kernel
theorem dX6_count_133 : decode cX6_count 133 = .ok (.aload_n 0, 1) := by decide +kernel
theorem dX6_count_134 : decode cX6_count 134 = .ok (.getfield 10, 3) := by decide +kernel
theorem dX6_count_137 : decode cX6_count 137 = .ok (.getfield 257, 3) := by decide +kernel
theorem dX6_count_140 : decode cX6_count 140 = .ok (.ireturn, 1) := by decide +kernel
theorem dX6_count_141 : decode cX6_count 141 = .ok (.aload_n 0, 1) := by decide +kernel
theorem dX6_count_142 : decode cX6_count 142 = .ok (.getfield 10, 3) := by decide +kernel
theorem dX6_count_145 : decode cX6_count 145 = .ok (.getfield 260, 3) := by decide +kernel
theorem dX6_count_148 : decode cX6_count 148 = .ok (.ireturn, 1) := by decide +kernel
theorem dX6_count_149 : decode cX6_count 149 = .ok (.aload_n 0, 1) := by decide +kernel
theorem dX6_count_150 : decode cX6_count 150 = .ok (.getfield 10, 3) := by decide +kernel
theorem dX6_count_153 : decode cX6_count 153 = .ok (.getfield 74, 3) := by decide +kernel
theorem dX6_count_156 : decode cX6_count 156 = .ok (.getfield 263, 3) := by decide +kernel
theorem dX6_count_159 : decode cX6_count 159 = .ok (.ireturn, 1) := by decide +kernel
theorem dX6_count_160 : decode cX6_count 160 = .ok (.aload_n 0, 1) := by decide +kernel
theorem dX6_count_161 : decode cX6_count 161 = .ok (.getfield 22, 3) := by decide +kernel
theorem dX6_count_164 : decode cX6_count 164 = .ok (.getfield 161, 3) := by decide +kernel
theorem dX6_count_167 : decode cX6_count 167 = .ok (.ireturn, 1) := by decide +kernel
theorem dX6_count_168 : decode cX6_count 168 = .ok (.aload_n 0, 1) := by decide +kernel
theorem dX6_count_169 : decode cX6_count 169 = .ok (.getfield 29, 3) := by decide +kernel
theorem dX6_count_172 : decode cX6_count 172 = .ok (.getfield 92, 3) := by decide +kernel
theorem dX6_count_175 : decode cX6_count 175 = .ok (.ireturn, 1) := by decide +kernel
theorem dX6_count_176 : decode cX6_count 176 = .ok (.sipush (-1002), 3) := by decide +kernel
theorem dX6_count_179 : decode cX6_count 179 = .ok (.ireturn, 1) := by decide +kernel
theorem dX6_isPlate_0 : decode cX6_isPlate 0 = .ok (.iload_n 0, 1) := by decide +kernel
theorem dX6_isPlate_1 : decode cX6_isPlate 1 = .ok (.sipush 300, 3) := by decide +kernel
theorem dX6_isPlate_4 : decode cX6_isPlate 4 = .ok (.if_icmp .lt 27, 3) := by decide +kernel
theorem dX6_isPlate_7 : decode cX6_isPlate 7 = .ok (.iload_n 0, 1) := by decide +kernel
theorem dX6_isPlate_8 : decode cX6_isPlate 8 = .ok (.sipush 6000, 3) := by decide +kernel
theorem dX6_isPlate_11 : decode cX6_isPlate 11 = .ok (.if_icmp .gt 20, 3) := by decide +kernel
theorem dX6_isPlate_14 : decode cX6_isPlate 14 = .ok (.iload_n 1, 1) := by decide +kernel
theorem dX6_isPlate_15 : decode cX6_isPlate 15 = .ok (.bipush 100, 2) := by decide +kernel
theorem dX6_isPlate_17 : decode cX6_isPlate 17 = .ok (.if_icmp .lt 14, 3) := by decide +kernel
theorem dX6_isPlate_20 : decode cX6_isPlate 20 = .ok (.iload_n 1, 1) := by decide +kernel
theorem dX6_isPlate_21 : decode cX6_isPlate 21 = .ok (.sipush 3000, 3) := by decide +kernel
theorem dX6_isPlate_24 : decode cX6_isPlate 24 = .ok (.if_icmp .gt 7, 3) := by decide +kernel
theorem dX6_isPlate_27 : decode cX6_isPlate 27 = .ok (.iconst 1, 1) := by decide +kernel
theorem dX6_isPlate_28 : decode cX6_isPlate 28 = .ok (.goto 4, 3) := by decide +kernel
theorem dX6_isPlate_31 : decode cX6_isPlate 31 = .ok (.iconst 0, 1) := by decide +kernel
theorem dX6_isPlate_32 : decode cX6_isPlate 32 = .ok (.ireturn, 1) := by decide +kernel
theorem dJ6_bitCount_0f7a4_0 : decode cJ6_bitCount_0f7a4 0 = .ok (.iload_n 0, 1) := by decide +kernel
theorem dJ6_bitCount_0f7a4_1 : decode cJ6_bitCount_0f7a4 1 = .ok (.iload_n 0, 1) := by decide +kernel
theorem dJ6_bitCount_0f7a4_2 : decode cJ6_bitCount_0f7a4 2 = .ok (.iconst 1, 1) := by decide +kernel
theorem dJ6_bitCount_0f7a4_3 : decode cJ6_bitCount_0f7a4 3 = .ok (.iushr, 1) := by decide +kernel
theorem dJ6_bitCount_0f7a4_4 : decode cJ6_bitCount_0f7a4 4 = .ok (.ldc_w 265, 3) := by decide +kernel
theorem dJ6_bitCount_0f7a4_7 : decode cJ6_bitCount_0f7a4 7 = .ok (.iand, 1) := by decide +kernel
theorem dJ6_bitCount_0f7a4_8 : decode cJ6_bitCount_0f7a4 8 = .ok (.isub, 1) := by decide +kernel
theorem dJ6_bitCount_0f7a4_9 : decode cJ6_bitCount_0f7a4 9 = .ok (.istore_n 0, 1) := by decide +kernel
theorem dJ6_bitCount_0f7a4_10 : decode cJ6_bitCount_0f7a4 10 = .ok (.iload_n 0, 1) := by decide +kernel
theorem dJ6_bitCount_0f7a4_11 : decode cJ6_bitCount_0f7a4 11 = .ok (.ldc_w 266, 3) := by decide +kernel
theorem dJ6_bitCount_0f7a4_14 : decode cJ6_bitCount_0f7a4 14 = .ok (.iand, 1) := by decide +kernel
theorem dJ6_bitCount_0f7a4_15 : decode cJ6_bitCount_0f7a4 15 = .ok (.iload_n 0, 1) := by decide +kernel
theorem dJ6_bitCount_0f7a4_16 : decode cJ6_bitCount_0f7a4 16 = .ok (.iconst 2, 1) := by decide +kernel
theorem dJ6_bitCount_0f7a4_17 : decode cJ6_bitCount_0f7a4 17 = .ok (.iushr, 1) := by decide +kernel
theorem dJ6_bitCount_0f7a4_18 : decode cJ6_bitCount_0f7a4 18 = .ok (.ldc_w 266, 3) := by decide +kernel
theorem dJ6_bitCount_0f7a4_21 : decode cJ6_bitCount_0f7a4 21 = .ok (.iand, 1) := by decide +kernel
theorem dJ6_bitCount_0f7a4_22 : decode cJ6_bitCount_0f7a4 22 = .ok (.iadd, 1) := by decide +kernel
theorem dJ6_bitCount_0f7a4_23 : decode cJ6_bitCount_0f7a4 23 = .ok (.istore_n 0, 1) := by decide +kernel
theorem dJ6_bitCount_0f7a4_24 : decode cJ6_bitCount_0f7a4 24 = .ok (.iload_n 0, 1) := by decide +kernel
theorem dJ6_bitCount_0f7a4_25 : decode cJ6_bitCount_0f7a4 25 = .ok (.iload_n 0, 1) := by decide +kernel
theorem dJ6_bitCount_0f7a4_26 : decode cJ6_bitCount_0f7a4 26 = .ok (.iconst 4, 1) := by decide +kernel
theorem dJ6_bitCount_0f7a4_27 : decode cJ6_bitCount_0f7a4 27 = .ok (.iushr, 1) := by decide +kernel
theorem dJ6_bitCount_0f7a4_28 : decode cJ6_bitCount_0f7a4 28 = .ok (.iadd, 1) := by decide +kernel
theorem dJ6_bitCount_0f7a4_29 : decode cJ6_bitCount_0f7a4 29 = .ok (.ldc_w 267, 3) := by decide +kernel
theorem dJ6_bitCount_0f7a4_32 : decode cJ6_bitCount_0f7a4 32 = .ok (.iand, 1) := by decide +kernel
theorem dJ6_bitCount_0f7a4_33 : decode cJ6_bitCount_0f7a4 33 = .ok (.istore_n 0, 1) := by decide +kernel
theorem dJ6_bitCount_0f7a4_34 : decode cJ6_bitCount_0f7a4 34 = .ok (.iload_n 0, 1) := by decide +kernel
theorem dJ6_bitCount_0f7a4_35 : decode cJ6_bitCount_0f7a4 35 = .ok (.iload_n 0, 1) := by decide +kernel
theorem dJ6_bitCount_0f7a4_36 : decode cJ6_bitCount_0f7a4 36 = .ok (.bipush 8, 2) := by decide +kernel
theorem dJ6_bitCount_0f7a4_38 : decode cJ6_bitCount_0f7a4 38 = .ok (.iushr, 1) := by decide +kernel
theorem dJ6_bitCount_0f7a4_39 : decode cJ6_bitCount_0f7a4 39 = .ok (.iadd, 1) := by decide +kernel
theorem dJ6_bitCount_0f7a4_40 : decode cJ6_bitCount_0f7a4 40 = .ok (.istore_n 0, 1) := by decide +kernel
theorem dJ6_bitCount_0f7a4_41 : decode cJ6_bitCount_0f7a4 41 = .ok (.iload_n 0, 1) := by decide +kernel
theorem dJ6_bitCount_0f7a4_42 : decode cJ6_bitCount_0f7a4 42 = .ok (.iload_n 0, 1) := by decide +kernel
theorem dJ6_bitCount_0f7a4_43 : decode cJ6_bitCount_0f7a4 43 = .ok (.bipush 16, 2) := by decide +kernel
theorem dJ6_bitCount_0f7a4_45 : decode cJ6_bitCount_0f7a4 45 = .ok (.iushr, 1) := by decide +kernel
theorem dJ6_bitCount_0f7a4_46 : decode cJ6_bitCount_0f7a4 46 = .ok (.iadd, 1) := by decide +kernel
theorem dJ6_bitCount_0f7a4_47 : decode cJ6_bitCount_0f7a4 47 = .ok (.istore_n 0, 1) := by decide +kernel
theorem dJ6_bitCount_0f7a4_48 : decode cJ6_bitCount_0f7a4 48 = .ok (.iload_n 0, 1) := by decide +kernel
theorem dJ6_bitCount_0f7a4_49 : decode cJ6_bitCount_0f7a4 49 = .ok (.bipush 63, 2) := by decide +kernel
theorem dJ6_bitCount_0f7a4_51 : decode cJ6_bitCount_0f7a4 51 = .ok (.iand, 1) := by decide +kernel
theorem dJ6_bitCount_0f7a4_52 : decode cJ6_bitCount_0f7a4 52 = .ok (.ireturn, 1) := by decide +kernel
theorem dJ9_floorDiv_7cf53_0 : decode cJ9_floorDiv_7cf53 0 = .ok (.iload_n 0, 1) := by decide +kernel
theorem dJ9_floorDiv_7cf53_1 : decode cJ9_floorDiv_7cf53 1 = .ok (.iload_n 1, 1) := by decide +kernel
theorem dJ9_floorDiv_7cf53_2 : decode cJ9_floorDiv_7cf53 2 = .ok (.idiv, 1) := by decide +kernel
theorem dJ9_floorDiv_7cf53_3 : decode cJ9_floorDiv_7cf53 3 = .ok (.istore_n 2, 1) := by decide +kernel
theorem dJ9_floorDiv_7cf53_4 : decode cJ9_floorDiv_7cf53 4 = .ok (.iload_n 0, 1) := by decide +kernel
theorem dJ9_floorDiv_7cf53_5 : decode cJ9_floorDiv_7cf53 5 = .ok (.iload_n 1, 1) := by decide +kernel
theorem dJ9_floorDiv_7cf53_6 : decode cJ9_floorDiv_7cf53 6 = .ok (.ixor, 1) := by decide +kernel
theorem dJ9_floorDiv_7cf53_7 : decode cJ9_floorDiv_7cf53 7 = .ok (.ifCond .ge 14, 3) := by decide +kernel
theorem dJ9_floorDiv_7cf53_10 : decode cJ9_floorDiv_7cf53 10 = .ok (.iload_n 2, 1) := by decide +kernel
theorem dJ9_floorDiv_7cf53_11 : decode cJ9_floorDiv_7cf53 11 = .ok (.iload_n 1, 1) := by decide +kernel
theorem dJ9_floorDiv_7cf53_12 : decode cJ9_floorDiv_7cf53 12 = .ok (.imul, 1) := by decide +kernel
theorem dJ9_floorDiv_7cf53_13 : decode cJ9_floorDiv_7cf53 13 = .ok (.iload_n 0, 1) := by decide +kernel
theorem dJ9_floorDiv_7cf53_14 : decode cJ9_floorDiv_7cf53 14 = .ok (.if_icmp .eq 7, 3) := by decide +kernel
theorem dJ9_floorDiv_7cf53_17 : decode cJ9_floorDiv_7cf53 17 = .ok (.iload_n 2, 1) := by decide +kernel
theorem dJ9_floorDiv_7cf53_18 : decode cJ9_floorDiv_7cf53 18 = .ok (.iconst 1, 1) := by decide +kernel
theorem dJ9_floorDiv_7cf53_19 : decode cJ9_floorDiv_7cf53 19 = .ok (.isub, 1) := by decide +kernel
theorem dJ9_floorDiv_7cf53_20 : decode cJ9_floorDiv_7cf53 20 = .ok (.ireturn, 1) := by decide +kernel
theorem dJ9_floorDiv_7cf53_21 : decode cJ9_floorDiv_7cf53 21 = .ok (.iload_n 2, 1) := by decide +kernel
theorem dJ9_floorDiv_7cf53_22 : decode cJ9_floorDiv_7cf53 22 = .ok (.ireturn, 1) := by decide +kernel
theorem dJ9_max_7cf53_0 : decode cJ9_max_7cf53 0 = .ok (.iload_n 0, 1) := by decide +kernel
theorem dJ9_max_7cf53_1 : decode cJ9_max_7cf53 1 = .ok (.iload_n 1, 1) := by decide +kernel
theorem dJ9_max_7cf53_2 : decode cJ9_max_7cf53 2 = .ok (.if_icmp .lt 7, 3) := by decide +kernel
theorem dJ9_max_7cf53_5 : decode cJ9_max_7cf53 5 = .ok (.iload_n 0, 1) := by decide +kernel
theorem dJ9_max_7cf53_6 : decode cJ9_max_7cf53 6 = .ok (.goto 4, 3) := by decide +kernel
theorem dJ9_max_7cf53_9 : decode cJ9_max_7cf53 9 = .ok (.iload_n 1, 1) := by decide +kernel
theorem dJ9_max_7cf53_10 : decode cJ9_max_7cf53 10 = .ok (.ireturn, 1) := by decide +kernel
theorem dJ9_min_7cf53_0 : decode cJ9_min_7cf53 0 = .ok (.iload_n 0, 1) := by decide +kernel
theorem dJ9_min_7cf53_1 : decode cJ9_min_7cf53 1 = .ok (.iload_n 1, 1) := by decide +kernel
theorem dJ9_min_7cf53_2 : decode cJ9_min_7cf53 2 = .ok (.if_icmp .gt 7, 3) := by decide +kernel
theorem dJ9_min_7cf53_5 : decode cJ9_min_7cf53 5 = .ok (.iload_n 0, 1) := by decide +kernel
theorem dJ9_min_7cf53_6 : decode cJ9_min_7cf53 6 = .ok (.goto 4, 3) := by decide +kernel
theorem dJ9_min_7cf53_9 : decode cJ9_min_7cf53 9 = .ok (.iload_n 1, 1) := by decide +kernel
theorem dJ9_min_7cf53_10 : decode cJ9_min_7cf53 10 = .ok (.ireturn, 1) := by decide +kernel
theorem dL_cell_0 : decode cL_cell 0 = .ok (.iload_n 1, 1) := by decide +kernel
theorem dL_cell_1 : decode cL_cell 1 = .ok (.aload_n 0, 1) := by decide +kernel
theorem dL_cell_2 : decode cL_cell 2 = .ok (.arraylength, 1) := by decide +kernel
theorem dL_cell_3 : decode cL_cell 3 = .ok (.if_icmp .ge 9, 3) := by decide +kernel
theorem dL_cell_6 : decode cL_cell 6 = .ok (.aload_n 0, 1) := by decide +kernel
theorem dL_cell_7 : decode cL_cell 7 = .ok (.iload_n 1, 1) := by decide +kernel
theorem dL_cell_8 : decode cL_cell 8 = .ok (.iaload, 1) := by decide +kernel
theorem dL_cell_9 : decode cL_cell 9 = .ok (.goto 11, 3) := by decide +kernel
theorem dL_cell_12 : decode cL_cell 12 = .ok (.ldc 7, 2) := by decide +kernel
theorem dL_cell_14 : decode cL_cell 14 = .ok (.iload_n 1, 1) := by decide +kernel
theorem dL_cell_15 : decode cL_cell 15 = .ok (.imul, 1) := by decide +kernel
theorem dL_cell_16 : decode cL_cell 16 = .ok (.sipush 1373, 3) := by decide +kernel
theorem dL_cell_19 : decode cL_cell 19 = .ok (.iadd, 1) := by decide +kernel
theorem dL_cell_20 : decode cL_cell 20 = .ok (.ireturn, 1) := by decide +kernel
theorem dL_low_0 : decode cL_low 0 = .ok (.iload_n 0, 1) := by decide +kernel
theorem dL_low_1 : decode cL_low 1 = .ok (.ldc 8, 2) := by decide +kernel
theorem dL_low_3 : decode cL_low 3 = .ok (.iand, 1) := by decide +kernel
theorem dL_low_4 : decode cL_low 4 = .ok (.iload_n 1, 1) := by decide +kernel
theorem dL_low_5 : decode cL_low 5 = .ok (.irem, 1) := by decide +kernel
theorem dL_low_6 : decode cL_low 6 = .ok (.ireturn, 1) := by decide +kernel
set_option maxRecDepth 100000 in
theorem ggL_digest_X6_count : GoodIn wsL_digest wsX6_count := goodIn_r _ [9, 10, 11, 12, 13, 14, 15, 16, 17, 18, 19, 20, 21, 22, 23, 24, 25, 26, 27, 28, 29, 30, 31, 32, 33, 34, 35, 36, 37, 198, 199, 200, 201, 202, 203, 204, 205, 206, 207, 208, 209, 210, 211, 212, 213, 214, 215, 216, 217, 218, 219, 220, 221, 222, 223, 224] rfl (by decide +kernel)
set_option maxRecDepth 20000 in
theorem gL_digest_X6_count : GoodIn wsL_digest (wsV RL 13 RX6 yX6_count wsX6_count) := goodIn_app (goodIn_of _ (by decide +kernel)) ggL_digest_X6_count
set_option maxRecDepth 100000 in
theorem ggL_digest_X6_name : GoodIn wsL_digest wsX6_name := goodIn_r _ [41, 10, 42, 43, 44, 45, 46, 47, 48, 49, 50, 51, 52, 53, 54, 55, 16, 56, 57, 58, 59, 60, 61, 62, 63, 64, 65, 66, 67, 68, 69, 70, 71, 72, 73, 74, 75, 76, 77, 78, 79, 80, 81, 82, 83, 84, 85, 86, 87, 88, 89, 90, 91, 92, 93, 94, 95, 96, 97, 98, 99, 100, 18, 101, 102, 103, 104, 30, 31, 32, 33, 34, 35, 36, 37, 105, 106, 107, 108, 109, 110, 111, 112, 113, 114, 115, 116, 117, 118, 119, 120, 121, 122, 123, 124, 125, 126, 127, 128, 129, 130, 131, 132, 133, 134, 135, 136, 137, 27, 28, 29, 138, 139, 140, 141, 142, 143, 144, 8, 145, 146, 147, 148, 149, 150, 151, 152, 153, 154, 155, 156, 157, 158, 159, 160, 161, 162, 163, 164, 165, 166, 167, 168, 169, 170, 171, 172, 173, 174, 175, 198, 199, 200, 201, 202, 203, 204, 205, 206, 207, 208, 209, 210, 211, 212, 213, 214, 215, 216, 217, 218, 219] rfl (by decide +kernel)
set_option maxRecDepth 20000 in
theorem gL_digest_X6_name : GoodIn wsL_digest (wsV RL 19 RX6 yX6_name wsX6_name) := goodIn_app (goodIn_of _ (by decide +kernel)) ggL_digest_X6_name
set_option maxRecDepth 100000 in
theorem ggL_digest_X6_pair : GoodIn wsL_digest wsX6_pair := goodIn_r _ [179, 10, 180, 181, 182, 84, 183, 86, 184, 185, 186, 187, 87, 188, 189, 190, 191, 192, 88, 193, 90, 91, 92, 93, 198, 199, 200, 201, 202, 203, 204, 205, 206, 207, 208, 209, 210, 211, 212, 216, 217, 218, 219] rfl (by decide +kernel)
set_option maxRecDepth 20000 in
theorem gL_digest_X6_pair : GoodIn wsL_digest (wsV RL 25 RX6 yX6_pair wsX6_pair) := goodIn_app (goodIn_of _ (by decide +kernel)) ggL_digest_X6_pair
set_option maxRecDepth 100000 in
theorem ggL_digest_X6_size : GoodIn wsL_digest wsX6_size := goodIn_r _ [197, 10, 116, 117, 118, 16, 119, 120, 121, 122, 57, 123, 124, 125, 126, 18, 127, 128, 129, 130, 77, 78, 79, 80, 131, 54, 55, 56, 58, 49, 50, 45, 51, 52, 59, 60, 61, 62, 63, 64, 65, 66, 67, 68, 69, 70, 71, 72, 73, 74, 75, 76, 81, 82, 83, 84, 85, 86, 87, 88, 89, 90, 91, 92, 93, 94, 95, 96, 132, 133, 134, 135, 136, 137, 27, 28, 29, 30, 31, 32, 33, 34, 35, 36, 37, 138, 139, 140, 141, 198, 199, 200, 201, 202, 203, 204, 205, 206, 207, 208, 209, 210, 211, 212, 213, 214, 215, 216, 217, 218, 219] rfl (by decide +kernel)
set_option maxRecDepth 20000 in
theorem gL_digest_X6_size : GoodIn wsL_digest (wsV RL 30 RX6 yX6_size wsX6_size) := goodIn_app (goodIn_of _ (by decide +kernel)) ggL_digest_X6_size
theorem dL_digest_0 : decode cL_digest 0 = .ok (.ldc2_w 9, 3) := by decide +kernel
theorem dL_digest_3 : decode cL_digest 3 = .ok (.lstore_n 1, 1) := by decide +kernel
theorem dL_digest_4 : decode cL_digest 4 = .ok (.iconst 0, 1) := by decide +kernel
theorem dL_digest_5 : decode cL_digest 5 = .ok (.istore_n 3, 1) := by decide +kernel
theorem dL_digest_6 : decode cL_digest 6 = .ok (.iload_n 3, 1) := by decide +kernel
theorem dL_digest_7 : decode cL_digest 7 = .ok (.bipush 10, 2) := by decide +kernel
theorem dL_digest_9 : decode cL_digest 9 = .ok (.if_icmp .ge 22, 3) := by decide +kernel
theorem dL_digest_12 : decode cL_digest 12 = .ok (.ldc2_w 11, 3) := by decide +kernel
theorem dL_digest_15 : decode cL_digest 15 = .ok (.lload_n 1, 1) := by decide +kernel
theorem dL_digest_16 : decode cL_digest 16 = .ok (.lmul, 1) := by decide +kernel
theorem dL_digest_17 : decode cL_digest 17 = .ok (.aload_n 0, 1) := by decide +kernel
theorem dL_digest_18 : decode cL_digest 18 = .ok (.iload_n 3, 1) := by decide +kernel
theorem dL_digest_19 : decode cL_digest 19 = .ok (.invokevirtual 13, 3) := by decide +kernel
theorem dL_digest_22 : decode cL_digest 22 = .ok (.i2l, 1) := by decide +kernel
theorem dL_digest_23 : decode cL_digest 23 = .ok (.ladd, 1) := by decide +kernel
theorem dL_digest_24 : decode cL_digest 24 = .ok (.lstore_n 1, 1) := by decide +kernel
theorem dL_digest_25 : decode cL_digest 25 = .ok (.iinc 3 1, 3) := by decide +kernel
theorem dL_digest_28 : decode cL_digest 28 = .ok (.goto (-22), 3) := by decide +kernel
theorem dL_digest_31 : decode cL_digest 31 = .ok (.iconst 0, 1) := by decide +kernel
theorem dL_digest_32 : decode cL_digest 32 = .ok (.istore_n 3, 1) := by decide +kernel
theorem dL_digest_33 : decode cL_digest 33 = .ok (.iload_n 3, 1) := by decide +kernel
theorem dL_digest_34 : decode cL_digest 34 = .ok (.aload_n 0, 1) := by decide +kernel
theorem dL_digest_35 : decode cL_digest 35 = .ok (.iconst 4, 1) := by decide +kernel
theorem dL_digest_36 : decode cL_digest 36 = .ok (.invokevirtual 13, 3) := by decide +kernel
theorem dL_digest_39 : decode cL_digest 39 = .ok (.if_icmp .ge 23, 3) := by decide +kernel
theorem dL_digest_42 : decode cL_digest 42 = .ok (.ldc2_w 11, 3) := by decide +kernel
theorem dL_digest_45 : decode cL_digest 45 = .ok (.lload_n 1, 1) := by decide +kernel
theorem dL_digest_46 : decode cL_digest 46 = .ok (.lmul, 1) := by decide +kernel
theorem dL_digest_47 : decode cL_digest 47 = .ok (.aload_n 0, 1) := by decide +kernel
theorem dL_digest_48 : decode cL_digest 48 = .ok (.iload_n 3, 1) := by decide +kernel
theorem dL_digest_49 : decode cL_digest 49 = .ok (.iconst 1, 1) := by decide +kernel
theorem dL_digest_50 : decode cL_digest 50 = .ok (.invokevirtual 19, 3) := by decide +kernel
theorem dL_digest_53 : decode cL_digest 53 = .ok (.i2l, 1) := by decide +kernel
theorem dL_digest_54 : decode cL_digest 54 = .ok (.ladd, 1) := by decide +kernel
theorem dL_digest_55 : decode cL_digest 55 = .ok (.lstore_n 1, 1) := by decide +kernel
theorem dL_digest_56 : decode cL_digest 56 = .ok (.iinc 3 1, 3) := by decide +kernel
theorem dL_digest_59 : decode cL_digest 59 = .ok (.goto (-26), 3) := by decide +kernel
theorem dL_digest_62 : decode cL_digest 62 = .ok (.iconst 0, 1) := by decide +kernel
theorem dL_digest_63 : decode cL_digest 63 = .ok (.istore_n 3, 1) := by decide +kernel
theorem dL_digest_64 : decode cL_digest 64 = .ok (.iload_n 3, 1) := by decide +kernel
theorem dL_digest_65 : decode cL_digest 65 = .ok (.aload_n 0, 1) := by decide +kernel
theorem dL_digest_66 : decode cL_digest 66 = .ok (.bipush 9, 2) := by decide +kernel
theorem dL_digest_68 : decode cL_digest 68 = .ok (.invokevirtual 13, 3) := by decide +kernel
theorem dL_digest_71 : decode cL_digest 71 = .ok (.if_icmp .ge 47, 3) := by decide +kernel
theorem dL_digest_74 : decode cL_digest 74 = .ok (.ldc2_w 11, 3) := by decide +kernel
theorem dL_digest_77 : decode cL_digest 77 = .ok (.lload_n 1, 1) := by decide +kernel
theorem dL_digest_78 : decode cL_digest 78 = .ok (.lmul, 1) := by decide +kernel
theorem dL_digest_79 : decode cL_digest 79 = .ok (.ldc2_w 23, 3) := by decide +kernel
theorem dL_digest_82 : decode cL_digest 82 = .ok (.aload_n 0, 1) := by decide +kernel
theorem dL_digest_83 : decode cL_digest 83 = .ok (.iload_n 3, 1) := by decide +kernel
theorem dL_digest_84 : decode cL_digest 84 = .ok (.iconst 0, 1) := by decide +kernel
theorem dL_digest_85 : decode cL_digest 85 = .ok (.invokevirtual 25, 3) := by decide +kernel
theorem dL_digest_88 : decode cL_digest 88 = .ok (.i2l, 1) := by decide +kernel
theorem dL_digest_89 : decode cL_digest 89 = .ok (.lmul, 1) := by decide +kernel
theorem dL_digest_90 : decode cL_digest 90 = .ok (.ladd, 1) := by decide +kernel
theorem dL_digest_91 : decode cL_digest 91 = .ok (.ldc2_w 28, 3) := by decide +kernel
theorem dL_digest_94 : decode cL_digest 94 = .ok (.aload_n 0, 1) := by decide +kernel
theorem dL_digest_95 : decode cL_digest 95 = .ok (.iload_n 3, 1) := by decide +kernel
theorem dL_digest_96 : decode cL_digest 96 = .ok (.iconst 1, 1) := by decide +kernel
theorem dL_digest_97 : decode cL_digest 97 = .ok (.invokevirtual 25, 3) := by decide +kernel
theorem dL_digest_100 : decode cL_digest 100 = .ok (.i2l, 1) := by decide +kernel
theorem dL_digest_101 : decode cL_digest 101 = .ok (.lmul, 1) := by decide +kernel
theorem dL_digest_102 : decode cL_digest 102 = .ok (.ladd, 1) := by decide +kernel
theorem dL_digest_103 : decode cL_digest 103 = .ok (.aload_n 0, 1) := by decide +kernel
theorem dL_digest_104 : decode cL_digest 104 = .ok (.iload_n 3, 1) := by decide +kernel
theorem dL_digest_105 : decode cL_digest 105 = .ok (.iconst 2, 1) := by decide +kernel
theorem dL_digest_106 : decode cL_digest 106 = .ok (.invokevirtual 25, 3) := by decide +kernel
theorem dL_digest_109 : decode cL_digest 109 = .ok (.i2l, 1) := by decide +kernel
theorem dL_digest_110 : decode cL_digest 110 = .ok (.ladd, 1) := by decide +kernel
theorem dL_digest_111 : decode cL_digest 111 = .ok (.lstore_n 1, 1) := by decide +kernel
theorem dL_digest_112 : decode cL_digest 112 = .ok (.iinc 3 1, 3) := by decide +kernel
theorem dL_digest_115 : decode cL_digest 115 = .ok (.goto (-51), 3) := by decide +kernel
theorem dL_digest_118 : decode cL_digest 118 = .ok (.ldc2_w 11, 3) := by decide +kernel
theorem dL_digest_121 : decode cL_digest 121 = .ok (.lload_n 1, 1) := by decide +kernel
theorem dL_digest_122 : decode cL_digest 122 = .ok (.lmul, 1) := by decide +kernel
theorem dL_digest_123 : decode cL_digest 123 = .ok (.aload_n 0, 1) := by decide +kernel
theorem dL_digest_124 : decode cL_digest 124 = .ok (.invokevirtual 30, 3) := by decide +kernel
theorem dL_digest_127 : decode cL_digest 127 = .ok (.i2l, 1) := by decide +kernel
theorem dL_digest_128 : decode cL_digest 128 = .ok (.ladd, 1) := by decide +kernel
theorem dL_digest_129 : decode cL_digest 129 = .ok (.lreturn, 1) := by decide +kernel
theorem dL_down_0 : decode cL_down 0 = .ok (.iload_n 0, 1) := by decide +kernel
theorem dL_down_1 : decode cL_down 1 = .ok (.iload_n 1, 1) := by decide +kernel
theorem dL_down_2 : decode cL_down 2 = .ok (.idiv, 1) := by decide +kernel
theorem dL_down_3 : decode cL_down 3 = .ok (.istore_n 2, 1) := by decide +kernel
theorem dL_down_4 : decode cL_down 4 = .ok (.iload_n 2, 1) := by decide +kernel
theorem dL_down_5 : decode cL_down 5 = .ok (.iload_n 1, 1) := by decide +kernel
theorem dL_down_6 : decode cL_down 6 = .ok (.imul, 1) := by decide +kernel
theorem dL_down_7 : decode cL_down 7 = .ok (.iload_n 0, 1) := by decide +kernel
theorem dL_down_8 : decode cL_down 8 = .ok (.if_icmp .le 9, 3) := by decide +kernel
theorem dL_down_11 : decode cL_down 11 = .ok (.iload_n 2, 1) := by decide +kernel
theorem dL_down_12 : decode cL_down 12 = .ok (.iconst 1, 1) := by decide +kernel
theorem dL_down_13 : decode cL_down 13 = .ok (.isub, 1) := by decide +kernel
theorem dL_down_14 : decode cL_down 14 = .ok (.goto 4, 3) := by decide +kernel
theorem dL_down_17 : decode cL_down 17 = .ok (.iload_n 2, 1) := by decide +kernel
theorem dL_down_18 : decode cL_down 18 = .ok (.ireturn, 1) := by decide +kernel
set_option maxRecDepth 100000 in
theorem ggL_name_X6_name : GoodIn wsL_name wsX6_name := goodIn_r _ [5, 6, 7, 8, 9, 10, 11, 12, 13, 14, 15, 16, 17, 18, 19, 20, 21, 22, 23, 24, 25, 26, 27, 28, 29, 30, 31, 32, 33, 34, 35, 36, 37, 38, 39, 40, 41, 42, 43, 44, 45, 46, 47, 48, 49, 50, 51, 52, 53, 54, 55, 56, 57, 58, 59, 60, 61, 62, 63, 64, 65, 66, 67, 68, 69, 70, 71, 72, 73, 74, 75, 76, 77, 78, 79, 80, 81, 82, 83, 84, 85, 86, 87, 88, 89, 90, 91, 92, 93, 94, 95, 96, 97, 98, 99, 100, 101, 102, 103, 104, 105, 106, 107, 108, 109, 110, 111, 112, 113, 114, 115, 116, 117, 118, 119, 120, 121, 122, 4, 123, 124, 125, 126, 127, 128, 129, 130, 131, 132, 133, 134, 135, 136, 137, 138, 139, 140, 141, 142, 143, 144, 145, 146, 147, 148, 149, 150, 151, 152, 153, 223, 224, 225, 226, 227, 228, 229, 230, 231, 232, 233, 234, 235, 236, 237, 238, 239, 240, 241, 242, 243, 244] rfl (by decide +kernel)
set_option maxRecDepth 20000 in
theorem gL_name_X6_name : GoodIn wsL_name (wsV RL 19 RX6 yX6_name wsX6_name) := goodIn_app (goodIn_of _ (by decide +kernel)) ggL_name_X6_name
set_option maxRecDepth 100000 in
theorem ggL_name_X6_size : GoodIn wsL_name wsX6_size := goodIn_r _ [157, 6, 91, 92, 93, 21, 94, 95, 96, 97, 23, 98, 99, 100, 101, 67, 102, 103, 104, 105, 43, 44, 45, 46, 106, 19, 20, 22, 24, 14, 15, 10, 16, 17, 25, 26, 27, 28, 29, 30, 31, 32, 33, 34, 35, 36, 37, 38, 39, 40, 41, 42, 47, 48, 49, 50, 51, 52, 53, 54, 55, 56, 57, 58, 59, 60, 61, 62, 107, 108, 109, 110, 111, 112, 113, 114, 115, 72, 73, 74, 75, 76, 77, 78, 79, 116, 117, 118, 119, 223, 224, 225, 226, 227, 228, 229, 230, 231, 232, 233, 234, 235, 236, 237, 238, 239, 240, 241, 242, 243, 244] rfl (by decide +kernel)
set_option maxRecDepth 20000 in
theorem gL_name_X6_size : GoodIn wsL_name (wsV RL 30 RX6 yX6_size wsX6_size) := goodIn_app (goodIn_of _ (by decide +kernel)) ggL_name_X6_size
set_option maxRecDepth 100000 in
theorem ggL_name_X6_sign : GoodIn wsL_name wsX6_sign := goodIn_r _ [161, 6, 162, 163, 164, 10, 165, 166, 8, 9, 11, 12, 167, 14, 15, 16, 17, 168, 30, 31, 32, 33, 169, 26, 27, 21, 28, 23, 29, 34, 35, 36, 37, 38, 39, 40, 41, 42, 43, 44, 45, 46, 24, 47, 48, 49, 50, 51, 52, 53, 54, 55, 56, 57, 58, 59, 60, 61, 62, 170, 171, 172, 173, 174, 175, 176, 177, 178, 179, 91, 92, 93, 94, 95, 96, 97, 98, 99, 100, 101, 67, 102, 103, 104, 105, 106, 19, 20, 22, 25, 107, 108, 109, 110, 111, 112, 113, 114, 115, 72, 73, 74, 75, 76, 77, 78, 79, 116, 117, 118, 119, 180, 181, 182, 4, 183, 129, 130, 131, 132, 133, 134, 135, 136, 137, 138, 139, 140, 81, 82, 83, 141, 85, 86, 87, 88, 89, 90, 142, 143, 144, 145, 223, 224, 225, 226, 227, 228, 229, 230, 231, 232, 233, 234, 235, 236, 237, 238, 239, 240, 241, 242, 243, 244] rfl (by decide +kernel)
set_option maxRecDepth 20000 in
theorem gL_name_X6_sign : GoodIn wsL_name (wsV RL 34 RX6 yX6_sign wsX6_sign) := goodIn_app (goodIn_of _ (by decide +kernel)) ggL_name_X6_sign
set_option maxRecDepth 100000 in
theorem ggL_name_X6_adjustment : GoodIn wsL_name wsX6_adjustment := goodIn_r _ [187, 6, 188, 189, 36, 190, 191, 192, 193, 194, 195, 196, 197, 198, 199, 21, 200, 42, 47, 48, 49, 50, 51, 52, 53, 54, 55, 56, 57, 58, 59, 223, 224, 225, 226, 227, 228, 229, 230, 231, 232, 233, 234, 235, 236, 237, 241, 242, 243, 244] rfl (by decide +kernel)
set_option maxRecDepth 20000 in
theorem gL_name_X6_adjustment : GoodIn wsL_name (wsV RL 38 RX6 yX6_adjustment wsX6_adjustment) := goodIn_app (goodIn_of _ (by decide +kernel)) ggL_name_X6_adjustment
set_option maxRecDepth 100000 in
theorem ggL_name_X6_count : GoodIn wsL_name wsX6_count := goodIn_r _ [204, 6, 205, 206, 207, 208, 209, 21, 210, 67, 211, 212, 213, 214, 215, 216, 217, 218, 113, 114, 115, 72, 73, 74, 75, 76, 77, 78, 79, 223, 224, 225, 226, 227, 228, 229, 230, 231, 232, 233, 234, 235, 236, 237, 238, 239, 240, 241, 242, 243, 244, 245, 246, 247, 248, 249] rfl (by decide +kernel)
set_option maxRecDepth 20000 in
theorem gL_name_X6_count : GoodIn wsL_name (wsV RL 13 RX6 yX6_count wsX6_count) := goodIn_app (goodIn_of _ (by decide +kernel)) ggL_name_X6_count
set_option maxRecDepth 100000 in
theorem ggL_name_L_down : GoodIn wsL_name wsL_down := goodIn_r _ [222] rfl (by decide +kernel)
set_option maxRecDepth 20000 in
theorem gL_name_L_down : GoodIn wsL_name (va_wsS RL 42 yL_down wsL_down) := goodIn_app (goodIn_of _ (by decide +kernel)) ggL_name_L_down
theorem dL_name_0 : decode cL_name 0 = .ok (.aload_n 0, 1) := by decide +kernel
theorem dL_name_1 : decode cL_name 1 = .ok (.iload_n 1, 1) := by decide +kernel
theorem dL_name_2 : decode cL_name 2 = .ok (.iconst 0, 1) := by decide +kernel
theorem dL_name_3 : decode cL_name 3 = .ok (.invokevirtual 19, 3) := by decide +kernel
theorem dL_name_6 : decode cL_name 6 = .ok (.istore_n 2, 1) := by decide +kernel
theorem dL_name_7 : decode cL_name 7 = .ok (.iconst 0, 1) := by decide +kernel
theorem dL_name_8 : decode cL_name 8 = .ok (.istore_n 3, 1) := by decide +kernel
theorem dL_name_9 : decode cL_name 9 = .ok (.iconst 0, 1) := by decide +kernel
theorem dL_name_10 : decode cL_name 10 = .ok (.istore 4, 2) := by decide +kernel
theorem dL_name_12 : decode cL_name 12 = .ok (.aload_n 0, 1) := by decide +kernel
theorem dL_name_13 : decode cL_name 13 = .ok (.invokevirtual 30, 3) := by decide +kernel
theorem dL_name_16 : decode cL_name 16 = .ok (.istore 5, 2) := by decide +kernel
theorem dL_name_18 : decode cL_name 18 = .ok (.iconst 0, 1) := by decide +kernel
theorem dL_name_19 : decode cL_name 19 = .ok (.istore 6, 2) := by decide +kernel
theorem dL_name_21 : decode cL_name 21 = .ok (.iload 6, 2) := by decide +kernel
theorem dL_name_23 : decode cL_name 23 = .ok (.iload_n 2, 1) := by decide +kernel
theorem dL_name_24 : decode cL_name 24 = .ok (.if_icmp .ge 305, 3) := by decide +kernel
theorem dL_name_27 : decode cL_name 27 = .ok (.aload_n 0, 1) := by decide +kernel
theorem dL_name_28 : decode cL_name 28 = .ok (.iload_n 1, 1) := by decide +kernel
theorem dL_name_29 : decode cL_name 29 = .ok (.iload 6, 2) := by decide +kernel
theorem dL_name_31 : decode cL_name 31 = .ok (.iconst 0, 1) := by decide +kernel
theorem dL_name_32 : decode cL_name 32 = .ok (.invokevirtual 34, 3) := by decide +kernel
theorem dL_name_35 : decode cL_name 35 = .ok (.istore 7, 2) := by decide +kernel
theorem dL_name_37 : decode cL_name 37 = .ok (.aload_n 0, 1) := by decide +kernel
theorem dL_name_38 : decode cL_name 38 = .ok (.iload_n 1, 1) := by decide +kernel
theorem dL_name_39 : decode cL_name 39 = .ok (.iload 6, 2) := by decide +kernel
theorem dL_name_41 : decode cL_name 41 = .ok (.iconst 3, 1) := by decide +kernel
theorem dL_name_42 : decode cL_name 42 = .ok (.invokevirtual 34, 3) := by decide +kernel
theorem dL_name_45 : decode cL_name 45 = .ok (.istore 8, 2) := by decide +kernel
theorem dL_name_47 : decode cL_name 47 = .ok (.aload_n 0, 1) := by decide +kernel
theorem dL_name_48 : decode cL_name 48 = .ok (.iload_n 1, 1) := by decide +kernel
theorem dL_name_49 : decode cL_name 49 = .ok (.iload 6, 2) := by decide +kernel
theorem dL_name_51 : decode cL_name 51 = .ok (.iconst 1, 1) := by decide +kernel
theorem dL_name_52 : decode cL_name 52 = .ok (.invokevirtual 34, 3) := by decide +kernel
theorem dL_name_55 : decode cL_name 55 = .ok (.iload_n 3, 1) := by decide +kernel
theorem dL_name_56 : decode cL_name 56 = .ok (.if_icmp .ne 32, 3) := by decide +kernel
theorem dL_name_59 : decode cL_name 59 = .ok (.iload 8, 2) := by decide +kernel
theorem dL_name_61 : decode cL_name 61 = .ok (.sipush (-1005), 3) := by decide +kernel
theorem dL_name_64 : decode cL_name 64 = .ok (.if_icmp .ne 7, 3) := by decide +kernel
theorem dL_name_67 : decode cL_name 67 = .ok (.iconst 1, 1) := by decide +kernel
theorem dL_name_68 : decode cL_name 68 = .ok (.goto 4, 3) := by decide +kernel
theorem dL_name_71 : decode cL_name 71 = .ok (.iconst 0, 1) := by decide +kernel
theorem dL_name_72 : decode cL_name 72 = .ok (.iload 6, 2) := by decide +kernel
theorem dL_name_74 : decode cL_name 74 = .ok (.iload_n 2, 1) := by decide +kernel
theorem dL_name_75 : decode cL_name 75 = .ok (.iconst 1, 1) := by decide +kernel
theorem dL_name_76 : decode cL_name 76 = .ok (.isub, 1) := by decide +kernel
theorem dL_name_77 : decode cL_name 77 = .ok (.if_icmp .ne 7, 3) := by decide +kernel
theorem dL_name_80 : decode cL_name 80 = .ok (.iconst 1, 1) := by decide +kernel
theorem dL_name_81 : decode cL_name 81 = .ok (.goto 4, 3) := by decide +kernel
