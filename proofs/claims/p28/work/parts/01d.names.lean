theorem dX5_characterAt_13 : decode cX5_characterAt 13 = .ok (.aload_n 0, 1) := by decide +kernel
theorem dX5_characterAt_14 : decode cX5_characterAt 14 = .ok (.getfield 9, 3) := by decide +kernel
theorem dX5_characterAt_17 : decode cX5_characterAt 17 = .ok (.iload_n 1, 1) := by decide +kernel
theorem dX5_characterAt_18 : decode cX5_characterAt 18 = .ok (.caload, 1) := by decide +kernel
theorem dX5_characterAt_19 : decode cX5_characterAt 19 = .ok (.goto 5, 3) := by decide +kernel
theorem dX5_characterAt_22 : decode cX5_characterAt 22 = .ok (.bipush 59, 2) := by decide +kernel
theorem dX5_characterAt_24 : decode cX5_characterAt 24 = .ok (.ireturn, 1) := by decide +kernel
set_option maxRecDepth 20000 in
theorem ggX5_namesInIt_X5_characterAt : GoodIn wsX5_namesInIt wsX5_characterAt := goodIn_r _ [6, 7, 8, 9] (by decide +kernel) (by decide +kernel)
set_option maxRecDepth 20000 in
theorem gX5_namesInIt_X5_characterAt : GoodIn wsX5_namesInIt (wsV RX5 19 RX5 yX5_characterAt wsX5_characterAt) := goodIn_app (goodIn_of _ (by decide +kernel)) ggX5_namesInIt_X5_characterAt
theorem dX5_namesInIt_0 : decode cX5_namesInIt 0 = .ok (.iconst 1, 1) := by decide +kernel
theorem dX5_namesInIt_1 : decode cX5_namesInIt 1 = .ok (.istore_n 1, 1) := by decide +kernel
theorem dX5_namesInIt_2 : decode cX5_namesInIt 2 = .ok (.iconst 0, 1) := by decide +kernel
theorem dX5_namesInIt_3 : decode cX5_namesInIt 3 = .ok (.istore_n 2, 1) := by decide +kernel
theorem dX5_namesInIt_4 : decode cX5_namesInIt 4 = .ok (.iload_n 2, 1) := by decide +kernel
theorem dX5_namesInIt_5 : decode cX5_namesInIt 5 = .ok (.aload_n 0, 1) := by decide +kernel
theorem dX5_namesInIt_6 : decode cX5_namesInIt 6 = .ok (.getfield 15, 3) := by decide +kernel
theorem dX5_namesInIt_9 : decode cX5_namesInIt 9 = .ok (.if_icmp .ge 22, 3) := by decide +kernel
theorem dX5_namesInIt_12 : decode cX5_namesInIt 12 = .ok (.aload_n 0, 1) := by decide +kernel
theorem dX5_namesInIt_13 : decode cX5_namesInIt 13 = .ok (.iload_n 2, 1) := by decide +kernel
theorem dX5_namesInIt_14 : decode cX5_namesInIt 14 = .ok (.invokevirtual 19, 3) := by decide +kernel
theorem dX5_namesInIt_17 : decode cX5_namesInIt 17 = .ok (.bipush 59, 2) := by decide +kernel
theorem dX5_namesInIt_19 : decode cX5_namesInIt 19 = .ok (.if_icmp .ne 6, 3) := by decide +kernel
theorem dX5_namesInIt_22 : decode cX5_namesInIt 22 = .ok (.iinc 1 1, 3) := by decide +kernel
theorem dX5_namesInIt_25 : decode cX5_namesInIt 25 = .ok (.iinc 2 1, 3) := by decide +kernel
theorem dX5_namesInIt_28 : decode cX5_namesInIt 28 = .ok (.goto (-24), 3) := by decide +kernel
theorem dX5_namesInIt_31 : decode cX5_namesInIt 31 = .ok (.iload_n 1, 1) := by decide +kernel
theorem dX5_namesInIt_32 : decode cX5_namesInIt 32 = .ok (.ireturn, 1) := by decide +kernel
set_option maxRecDepth 20000 in
theorem ggX5_fault_X5_characterAt : GoodIn wsX5_fault wsX5_characterAt := goodIn_r _ [6, 7, 18, 19] (by decide +kernel) (by decide +kernel)
set_option maxRecDepth 20000 in
theorem gX5_fault_X5_characterAt : GoodIn wsX5_fault (wsV RX5 19 RX5 yX5_characterAt wsX5_characterAt) := goodIn_app (goodIn_of _ (by decide +kernel)) ggX5_fault_X5_characterAt
set_option maxRecDepth 20000 in
theorem ggX5_fault_X5_isAllowed : GoodIn wsX5_fault wsX5_isAllowed := goodIn_r _ [10, 11, 12, 13, 14, 15, 16, 17] (by decide +kernel) (by decide +kernel)
set_option maxRecDepth 20000 in
theorem gX5_fault_X5_isAllowed : GoodIn wsX5_fault (va_wsS RX5 23 yX5_isAllowed wsX5_isAllowed) := goodIn_app (goodIn_of _ (by decide +kernel)) ggX5_fault_X5_isAllowed
set_option maxRecDepth 20000 in
theorem ggX5_fault_X3_isLetter : GoodIn wsX5_fault wsX3_isLetter := goodIn_r _ [14] (by decide +kernel) (by decide +kernel)
set_option maxRecDepth 20000 in
theorem gX5_fault_X3_isLetter : GoodIn wsX5_fault (va_wsS RX5 27 yX3_isLetter wsX3_isLetter) := goodIn_app (goodIn_of _ (by decide +kernel)) ggX5_fault_X3_isLetter
theorem dX5_fault_0 : decode cX5_fault 0 = .ok (.iconst 0, 1) := by decide +kernel
theorem dX5_fault_1 : decode cX5_fault 1 = .ok (.istore_n 1, 1) := by decide +kernel
theorem dX5_fault_2 : decode cX5_fault 2 = .ok (.iconst 0, 1) := by decide +kernel
theorem dX5_fault_3 : decode cX5_fault 3 = .ok (.istore_n 2, 1) := by decide +kernel
theorem dX5_fault_4 : decode cX5_fault 4 = .ok (.iconst 0, 1) := by decide +kernel
theorem dX5_fault_5 : decode cX5_fault 5 = .ok (.istore_n 3, 1) := by decide +kernel
theorem dX5_fault_6 : decode cX5_fault 6 = .ok (.iload_n 3, 1) := by decide +kernel
theorem dX5_fault_7 : decode cX5_fault 7 = .ok (.aload_n 0, 1) := by decide +kernel
theorem dX5_fault_8 : decode cX5_fault 8 = .ok (.getfield 15, 3) := by decide +kernel
theorem dX5_fault_11 : decode cX5_fault 11 = .ok (.if_icmp .ge 49, 3) := by decide +kernel
theorem dX5_fault_14 : decode cX5_fault 14 = .ok (.aload_n 0, 1) := by decide +kernel
theorem dX5_fault_15 : decode cX5_fault 15 = .ok (.iload_n 3, 1) := by decide +kernel
theorem dX5_fault_16 : decode cX5_fault 16 = .ok (.invokevirtual 19, 3) := by decide +kernel
theorem dX5_fault_19 : decode cX5_fault 19 = .ok (.istore 4, 2) := by decide +kernel
theorem dX5_fault_21 : decode cX5_fault 21 = .ok (.iload 4, 2) := by decide +kernel
theorem dX5_fault_23 : decode cX5_fault 23 = .ok (.iload_n 1, 1) := by decide +kernel
theorem dX5_fault_24 : decode cX5_fault 24 = .ok (.iload_n 2, 1) := by decide +kernel
theorem dX5_fault_25 : decode cX5_fault 25 = .ok (.invokestatic 23, 3) := by decide +kernel
theorem dX5_fault_28 : decode cX5_fault 28 = .ok (.ifCond .ne 5, 3) := by decide +kernel
theorem dX5_fault_31 : decode cX5_fault 31 = .ok (.iload_n 3, 1) := by decide +kernel
theorem dX5_fault_32 : decode cX5_fault 32 = .ok (.ireturn, 1) := by decide +kernel
theorem dX5_fault_33 : decode cX5_fault 33 = .ok (.iload 4, 2) := by decide +kernel
theorem dX5_fault_35 : decode cX5_fault 35 = .ok (.bipush 59, 2) := by decide +kernel
theorem dX5_fault_37 : decode cX5_fault 37 = .ok (.if_icmp .ne 7, 3) := by decide +kernel
theorem dX5_fault_40 : decode cX5_fault 40 = .ok (.iconst 0, 1) := by decide +kernel
theorem dX5_fault_41 : decode cX5_fault 41 = .ok (.goto 6, 3) := by decide +kernel
theorem dX5_fault_44 : decode cX5_fault 44 = .ok (.iload_n 1, 1) := by decide +kernel
theorem dX5_fault_45 : decode cX5_fault 45 = .ok (.iconst 1, 1) := by decide +kernel
theorem dX5_fault_46 : decode cX5_fault 46 = .ok (.iadd, 1) := by decide +kernel
theorem dX5_fault_47 : decode cX5_fault 47 = .ok (.istore_n 1, 1) := by decide +kernel
theorem dX5_fault_48 : decode cX5_fault 48 = .ok (.iload 4, 2) := by decide +kernel
theorem dX5_fault_50 : decode cX5_fault 50 = .ok (.invokestatic 27, 3) := by decide +kernel
theorem dX5_fault_53 : decode cX5_fault 53 = .ok (.istore_n 2, 1) := by decide +kernel
theorem dX5_fault_54 : decode cX5_fault 54 = .ok (.iinc 3 1, 3) := by decide +kernel
theorem dX5_fault_57 : decode cX5_fault 57 = .ok (.goto (-51), 3) := by decide +kernel
theorem dX5_fault_60 : decode cX5_fault 60 = .ok (.iload_n 2, 1) := by decide +kernel
theorem dX5_fault_61 : decode cX5_fault 61 = .ok (.ifCond .eq 7, 3) := by decide +kernel
theorem dX5_fault_64 : decode cX5_fault 64 = .ok (.iconst (-1), 1) := by decide +kernel
theorem dX5_fault_65 : decode cX5_fault 65 = .ok (.goto 7, 3) := by decide +kernel
theorem dX5_fault_68 : decode cX5_fault 68 = .ok (.aload_n 0, 1) := by decide +kernel
theorem dX5_fault_69 : decode cX5_fault 69 = .ok (.getfield 15, 3) := by decide +kernel
theorem dX5_fault_72 : decode cX5_fault 72 = .ok (.ireturn, 1) := by decide +kernel
set_option maxRecDepth 20000 in
theorem ggX5_isAllowed_X3_isLetter : GoodIn wsX5_isAllowed wsX3_isLetter := goodIn_r _ [4] (by decide +kernel) (by decide +kernel)
set_option maxRecDepth 20000 in
theorem gX5_isAllowed_X3_isLetter : GoodIn wsX5_isAllowed (va_wsS RX5 27 yX3_isLetter wsX3_isLetter) := goodIn_app (goodIn_of _ (by decide +kernel)) ggX5_isAllowed_X3_isLetter
set_option maxRecDepth 20000 in
theorem ggX5_isAllowed_X3_isMark : GoodIn wsX5_isAllowed wsX3_isMark := goodIn_r _ [7] (by decide +kernel) (by decide +kernel)
set_option maxRecDepth 20000 in
theorem gX5_isAllowed_X3_isMark : GoodIn wsX5_isAllowed (va_wsS RX5 33 yX3_isMark wsX3_isMark) := goodIn_app (goodIn_of _ (by decide +kernel)) ggX5_isAllowed_X3_isMark
theorem dX5_isAllowed_0 : decode cX5_isAllowed 0 = .ok (.iload_n 0, 1) := by decide +kernel
theorem dX5_isAllowed_1 : decode cX5_isAllowed 1 = .ok (.bipush 59, 2) := by decide +kernel
theorem dX5_isAllowed_3 : decode cX5_isAllowed 3 = .ok (.if_icmp .ne 5, 3) := by decide +kernel
theorem dX5_isAllowed_6 : decode cX5_isAllowed 6 = .ok (.iload_n 2, 1) := by decide +kernel
theorem dX5_isAllowed_7 : decode cX5_isAllowed 7 = .ok (.ireturn, 1) := by decide +kernel
theorem dX5_isAllowed_8 : decode cX5_isAllowed 8 = .ok (.iload_n 1, 1) := by decide +kernel
theorem dX5_isAllowed_9 : decode cX5_isAllowed 9 = .ok (.bipush 16, 2) := by decide +kernel
theorem dX5_isAllowed_11 : decode cX5_isAllowed 11 = .ok (.if_icmp .lt 5, 3) := by decide +kernel
theorem dX5_isAllowed_14 : decode cX5_isAllowed 14 = .ok (.iconst 0, 1) := by decide +kernel
theorem dX5_isAllowed_15 : decode cX5_isAllowed 15 = .ok (.ireturn, 1) := by decide +kernel
theorem dX5_isAllowed_16 : decode cX5_isAllowed 16 = .ok (.iload_n 0, 1) := by decide +kernel
theorem dX5_isAllowed_17 : decode cX5_isAllowed 17 = .ok (.invokestatic 27, 3) := by decide +kernel
theorem dX5_isAllowed_20 : decode cX5_isAllowed 20 = .ok (.ifCond .ne 14, 3) := by decide +kernel
theorem dX5_isAllowed_23 : decode cX5_isAllowed 23 = .ok (.iload_n 2, 1) := by decide +kernel
theorem dX5_isAllowed_24 : decode cX5_isAllowed 24 = .ok (.ifCond .eq 14, 3) := by decide +kernel
theorem dX5_isAllowed_27 : decode cX5_isAllowed 27 = .ok (.iload_n 0, 1) := by decide +kernel
theorem dX5_isAllowed_28 : decode cX5_isAllowed 28 = .ok (.invokestatic 33, 3) := by decide +kernel
theorem dX5_isAllowed_31 : decode cX5_isAllowed 31 = .ok (.ifCond .eq 7, 3) := by decide +kernel
theorem dX5_isAllowed_34 : decode cX5_isAllowed 34 = .ok (.iconst 1, 1) := by decide +kernel
theorem dX5_isAllowed_35 : decode cX5_isAllowed 35 = .ok (.goto 4, 3) := by decide +kernel
theorem dX5_isAllowed_38 : decode cX5_isAllowed 38 = .ok (.iconst 0, 1) := by decide +kernel
theorem dX5_isAllowed_39 : decode cX5_isAllowed 39 = .ok (.ireturn, 1) := by decide +kernel
set_option maxRecDepth 20000 in
theorem ggX6_init_X4_init : GoodIn wsX6_init wsX4_init := goodIn_r _ [19, 20, 2, 3, 21, 22, 23, 24, 25, 26, 27, 28, 29, 30, 31, 32, 33, 34, 35, 36, 37, 38, 39, 40, 41, 42, 43, 44, 45, 46, 47, 48, 49, 50, 51, 85, 86, 87, 65, 66, 67, 68, 69, 70, 71, 72, 73, 74, 88, 89, 90, 91] (by decide +kernel) (by decide +kernel)
set_option maxRecDepth 20000 in
theorem gX6_init_X4_init_n9 : GoodIn wsX6_init (wsX4_init) := ggX6_init_X4_init
set_option maxRecDepth 20000 in
theorem ggX6_init_X0_init : GoodIn wsX6_init wsX0_init := goodIn_r _ [54, 55, 2, 3, 56, 57, 58, 59, 5, 6, 18, 19, 20, 21, 22, 23, 24, 25, 26, 27, 28, 29, 30, 31, 32, 33, 34, 35, 36, 37, 38, 39, 40, 41, 42, 43, 44, 45, 46, 47, 48, 49, 50, 51, 80, 81, 82, 65, 66, 67, 68, 69, 70, 71, 72, 73, 74, 85, 86, 87, 88, 89, 90, 91] (by decide +kernel) (by decide +kernel)
set_option maxRecDepth 20000 in
theorem gX6_init_X0_init : GoodIn wsX6_init (wsX0_init) := ggX6_init_X0_init
set_option maxRecDepth 20000 in
theorem ggX6_init_X5_init : GoodIn wsX6_init wsX5_init := goodIn_r _ [61, 62, 2, 3, 40, 63, 64, 83, 84] (by decide +kernel) (by decide +kernel)
set_option maxRecDepth 20000 in
theorem gX6_init_X5_init_n28 : GoodIn wsX6_init (wsX5_init) := ggX6_init_X5_init
theorem dX6_init_0 : decode cX6_init 0 = .ok (.aload_n 0, 1) := by decide +kernel
theorem dX6_init_1 : decode cX6_init 1 = .ok (.invokespecial 1, 3) := by decide +kernel
theorem dX6_init_4 : decode cX6_init 4 = .ok (.aload_n 0, 1) := by decide +kernel
theorem dX6_init_5 : decode cX6_init 5 = .ok (.new 7, 3) := by decide +kernel
theorem dX6_init_8 : decode cX6_init 8 = .ok (.dup, 1) := by decide +kernel
theorem dX6_init_9 : decode cX6_init 9 = .ok (.invokespecial 9, 3) := by decide +kernel
theorem dX6_init_12 : decode cX6_init 12 = .ok (.putfield 10, 3) := by decide +kernel
theorem dX6_init_15 : decode cX6_init 15 = .ok (.aload_n 0, 1) := by decide +kernel
theorem dX6_init_16 : decode cX6_init 16 = .ok (.new 7, 3) := by decide +kernel
theorem dX6_init_19 : decode cX6_init 19 = .ok (.dup, 1) := by decide +kernel
theorem dX6_init_20 : decode cX6_init 20 = .ok (.invokespecial 9, 3) := by decide +kernel
theorem dX6_init_23 : decode cX6_init 23 = .ok (.putfield 16, 3) := by decide +kernel
theorem dX6_init_26 : decode cX6_init 26 = .ok (.aload_n 0, 1) := by decide +kernel
theorem dX6_init_27 : decode cX6_init 27 = .ok (.new 19, 3) := by decide +kernel
theorem dX6_init_30 : decode cX6_init 30 = .ok (.dup, 1) := by decide +kernel
theorem dX6_init_31 : decode cX6_init 31 = .ok (.invokespecial 21, 3) := by decide +kernel
theorem dX6_init_34 : decode cX6_init 34 = .ok (.putfield 22, 3) := by decide +kernel
theorem dX6_init_37 : decode cX6_init 37 = .ok (.aload_n 0, 1) := by decide +kernel
theorem dX6_init_38 : decode cX6_init 38 = .ok (.new 26, 3) := by decide +kernel
theorem dX6_init_41 : decode cX6_init 41 = .ok (.dup, 1) := by decide +kernel
theorem dX6_init_42 : decode cX6_init 42 = .ok (.invokespecial 28, 3) := by decide +kernel
theorem dX6_init_45 : decode cX6_init 45 = .ok (.putfield 29, 3) := by decide +kernel
theorem dX6_init_48 : decode cX6_init 48 = .ok (.aload_n 0, 1) := by decide +kernel
theorem dX6_init_49 : decode cX6_init 49 = .ok (.iconst 0, 1) := by decide +kernel
theorem dX6_init_50 : decode cX6_init 50 = .ok (.putfield 33, 3) := by decide +kernel
theorem dX6_init_53 : decode cX6_init 53 = .ok (.return_, 1) := by decide +kernel
set_option maxRecDepth 20000 in
theorem ggX6_recut_X6_isPlate : GoodIn wsX6_recut wsX6_isPlate := goodIn_r _ [6] (by decide +kernel) (by decide +kernel)
set_option maxRecDepth 20000 in
theorem gX6_recut_X6_isPlate : GoodIn wsX6_recut (va_wsS RX6 37 yX6_isPlate wsX6_isPlate) := goodIn_app (goodIn_of _ (by decide +kernel)) ggX6_recut_X6_isPlate
set_option maxRecDepth 20000 in
theorem ggX6_recut_X0_record : GoodIn wsX6_recut wsX0_record := goodIn_r _ [11, 12, 13, 14, 15, 16, 10, 17, 18, 19, 20, 21, 22, 23, 24, 25, 26, 27, 28, 29, 30, 31, 32, 33, 34, 35, 36, 37, 38, 39, 40, 41, 42, 43, 44, 45, 46, 47, 48, 49, 50, 51, 52, 53, 54, 55, 76, 77, 78, 79, 80, 81, 82, 83, 84, 85, 86, 87, 88, 89, 90, 91, 92, 93, 94, 95] (by decide +kernel) (by decide +kernel)
set_option maxRecDepth 20000 in
theorem gX6_recut_X0_record : GoodIn wsX6_recut (wsV RX6 41 RX0 yX0_record wsX0_record) := goodIn_app (goodIn_of _ (by decide +kernel)) ggX6_recut_X0_record
set_option maxRecDepth 20000 in
theorem ggX6_recut_X4_cutAnew : GoodIn wsX6_recut wsX4_cutAnew := goodIn_r _ [59, 26, 27, 30, 32, 33, 60, 61, 62, 22, 63, 64, 65, 66, 67, 68, 69, 70, 79, 80, 81, 82, 83, 84, 85, 86, 87, 88] (by decide +kernel) (by decide +kernel)
set_option maxRecDepth 20000 in
theorem gX6_recut_X4_cutAnew : GoodIn wsX6_recut (wsV RX6 45 RX4 yX4_cutAnew wsX4_cutAnew) := goodIn_app (goodIn_of _ (by decide +kernel)) ggX6_recut_X4_cutAnew
theorem dX6_recut_0 : decode cX6_recut 0 = .ok (.iload_n 1, 1) := by decide +kernel
theorem dX6_recut_1 : decode cX6_recut 1 = .ok (.iload_n 2, 1) := by decide +kernel
theorem dX6_recut_2 : decode cX6_recut 2 = .ok (.invokestatic 37, 3) := by decide +kernel
theorem dX6_recut_5 : decode cX6_recut 5 = .ok (.ifCond .ne 7, 3) := by decide +kernel
theorem dX6_recut_8 : decode cX6_recut 8 = .ok (.sipush (-1002), 3) := by decide +kernel
theorem dX6_recut_11 : decode cX6_recut 11 = .ok (.ireturn, 1) := by decide +kernel
theorem dX6_recut_12 : decode cX6_recut 12 = .ok (.aload_n 0, 1) := by decide +kernel
theorem dX6_recut_13 : decode cX6_recut 13 = .ok (.getfield 22, 3) := by decide +kernel
theorem dX6_recut_16 : decode cX6_recut 16 = .ok (.aload_n 0, 1) := by decide +kernel
theorem dX6_recut_17 : decode cX6_recut 17 = .ok (.getfield 10, 3) := by decide +kernel
theorem dX6_recut_20 : decode cX6_recut 20 = .ok (.invokevirtual 41, 3) := by decide +kernel
theorem dX6_recut_23 : decode cX6_recut 23 = .ok (.aload_n 0, 1) := by decide +kernel
theorem dX6_recut_24 : decode cX6_recut 24 = .ok (.getfield 10, 3) := by decide +kernel
theorem dX6_recut_27 : decode cX6_recut 27 = .ok (.iload_n 1, 1) := by decide +kernel
theorem dX6_recut_28 : decode cX6_recut 28 = .ok (.iload_n 2, 1) := by decide +kernel
theorem dX6_recut_29 : decode cX6_recut 29 = .ok (.invokevirtual 45, 3) := by decide +kernel
theorem dX6_recut_32 : decode cX6_recut 32 = .ok (.ireturn, 1) := by decide +kernel
set_option maxRecDepth 20000 in
theorem ggX6_setMargin_X4_hasEngraved : GoodIn wsX6_setMargin wsX4_hasEngraved := goodIn_r _ [7, 8, 61, 62, 63, 64, 65, 66, 67, 68, 69, 70] (by decide +kernel) (by decide +kernel)
set_option maxRecDepth 20000 in
theorem gX6_setMargin_X4_hasEngraved : GoodIn wsX6_setMargin (wsV RX6 49 RX4 yX4_hasEngraved wsX4_hasEngraved) := goodIn_app (goodIn_of _ (by decide +kernel)) ggX6_setMargin_X4_hasEngraved
set_option maxRecDepth 20000 in
theorem ggX6_setMargin_X0_record : GoodIn wsX6_setMargin wsX0_record := goodIn_r _ [13, 14, 15, 16, 17, 18, 12, 19, 20, 21, 22, 23, 6, 24, 25, 26, 27, 28, 29, 30, 8, 31, 32, 33, 34, 35, 36, 37, 38, 39, 40, 41, 42, 43, 44, 45, 46, 47, 48, 49, 50, 51, 52, 53, 54, 55, 71, 72, 73, 61, 62, 63, 64, 65, 66, 67, 68, 69, 70, 74, 75, 76, 77, 78, 79, 80] (by decide +kernel) (by decide +kernel)
set_option maxRecDepth 20000 in
theorem gX6_setMargin_X0_record : GoodIn wsX6_setMargin (wsV RX6 41 RX0 yX0_record wsX0_record) := goodIn_app (goodIn_of _ (by decide +kernel)) ggX6_setMargin_X0_record
theorem dX6_setMargin_0 : decode cX6_setMargin 0 = .ok (.iload_n 1, 1) := by decide +kernel
theorem dX6_setMargin_1 : decode cX6_setMargin 1 = .ok (.ifCond .lt 9, 3) := by decide +kernel
theorem dX6_setMargin_4 : decode cX6_setMargin 4 = .ok (.iload_n 1, 1) := by decide +kernel
theorem dX6_setMargin_5 : decode cX6_setMargin 5 = .ok (.bipush 100, 2) := by decide +kernel
theorem dX6_setMargin_7 : decode cX6_setMargin 7 = .ok (.if_icmp .le 7, 3) := by decide +kernel
theorem dX6_setMargin_10 : decode cX6_setMargin 10 = .ok (.sipush (-1002), 3) := by decide +kernel
theorem dX6_setMargin_13 : decode cX6_setMargin 13 = .ok (.ireturn, 1) := by decide +kernel
theorem dX6_setMargin_14 : decode cX6_setMargin 14 = .ok (.aload_n 0, 1) := by decide +kernel
theorem dX6_setMargin_15 : decode cX6_setMargin 15 = .ok (.getfield 10, 3) := by decide +kernel
theorem dX6_setMargin_18 : decode cX6_setMargin 18 = .ok (.invokevirtual 49, 3) := by decide +kernel
theorem dX6_setMargin_21 : decode cX6_setMargin 21 = .ok (.ifCond .eq 7, 3) := by decide +kernel
theorem dX6_setMargin_24 : decode cX6_setMargin 24 = .ok (.sipush (-1004), 3) := by decide +kernel
theorem dX6_setMargin_27 : decode cX6_setMargin 27 = .ok (.ireturn, 1) := by decide +kernel
theorem dX6_setMargin_28 : decode cX6_setMargin 28 = .ok (.aload_n 0, 1) := by decide +kernel
theorem dX6_setMargin_29 : decode cX6_setMargin 29 = .ok (.getfield 10, 3) := by decide +kernel
theorem dX6_setMargin_32 : decode cX6_setMargin 32 = .ok (.getfield 53, 3) := by decide +kernel
theorem dX6_setMargin_35 : decode cX6_setMargin 35 = .ok (.istore_n 2, 1) := by decide +kernel
theorem dX6_setMargin_36 : decode cX6_setMargin 36 = .ok (.iload_n 2, 1) := by decide +kernel
theorem dX6_setMargin_37 : decode cX6_setMargin 37 = .ok (.iload_n 1, 1) := by decide +kernel
theorem dX6_setMargin_38 : decode cX6_setMargin 38 = .ok (.if_icmp .ne 7, 3) := by decide +kernel
theorem dX6_setMargin_41 : decode cX6_setMargin 41 = .ok (.sipush (-1005), 3) := by decide +kernel
theorem dX6_setMargin_44 : decode cX6_setMargin 44 = .ok (.ireturn, 1) := by decide +kernel
theorem dX6_setMargin_45 : decode cX6_setMargin 45 = .ok (.aload_n 0, 1) := by decide +kernel
theorem dX6_setMargin_46 : decode cX6_setMargin 46 = .ok (.getfield 22, 3) := by decide +kernel
theorem dX6_setMargin_49 : decode cX6_setMargin 49 = .ok (.aload_n 0, 1) := by decide +kernel
theorem dX6_setMargin_50 : decode cX6_setMargin 50 = .ok (.getfield 10, 3) := by decide +kernel
theorem dX6_setMargin_53 : decode cX6_setMargin 53 = .ok (.invokevirtual 41, 3) := by decide +kernel
theorem dX6_setMargin_56 : decode cX6_setMargin 56 = .ok (.aload_n 0, 1) := by decide +kernel
theorem dX6_setMargin_57 : decode cX6_setMargin 57 = .ok (.getfield 10, 3) := by decide +kernel
theorem dX6_setMargin_60 : decode cX6_setMargin 60 = .ok (.iload_n 1, 1) := by decide +kernel
theorem dX6_setMargin_61 : decode cX6_setMargin 61 = .ok (.putfield 53, 3) := by decide +kernel
theorem dX6_setMargin_64 : decode cX6_setMargin 64 = .ok (.iload_n 2, 1) := by decide +kernel
theorem dX6_setMargin_65 : decode cX6_setMargin 65 = .ok (.ireturn, 1) := by decide +kernel
set_option maxRecDepth 20000 in
theorem ggX6_setColumns_X4_hasEngraved : GoodIn wsX6_setColumns wsX4_hasEngraved := goodIn_r _ [7, 8, 61, 62, 63, 64, 65, 66, 67, 68, 69, 70] (by decide +kernel) (by decide +kernel)
set_option maxRecDepth 20000 in
theorem gX6_setColumns_X4_hasEngraved : GoodIn wsX6_setColumns (wsV RX6 49 RX4 yX4_hasEngraved wsX4_hasEngraved) := goodIn_app (goodIn_of _ (by decide +kernel)) ggX6_setColumns_X4_hasEngraved
set_option maxRecDepth 20000 in
theorem ggX6_setColumns_X0_record : GoodIn wsX6_setColumns wsX0_record := goodIn_r _ [13, 14, 15, 16, 17, 18, 12, 19, 20, 21, 22, 23, 6, 24, 25, 26, 27, 28, 29, 30, 8, 31, 32, 33, 34, 35, 36, 37, 38, 39, 40, 41, 42, 43, 44, 45, 46, 47, 48, 49, 50, 51, 52, 53, 54, 55, 71, 72, 73, 61, 62, 63, 64, 65, 66, 67, 68, 69, 70, 74, 75, 76, 77, 78, 79, 80] (by decide +kernel) (by decide +kernel)
set_option maxRecDepth 20000 in
theorem gX6_setColumns_X0_record : GoodIn wsX6_setColumns (wsV RX6 41 RX0 yX0_record wsX0_record) := goodIn_app (goodIn_of _ (by decide +kernel)) ggX6_setColumns_X0_record
theorem dX6_setColumns_0 : decode cX6_setColumns 0 = .ok (.iload_n 1, 1) := by decide +kernel
theorem dX6_setColumns_1 : decode cX6_setColumns 1 = .ok (.iconst 1, 1) := by decide +kernel
theorem dX6_setColumns_2 : decode cX6_setColumns 2 = .ok (.if_icmp .lt 8, 3) := by decide +kernel
theorem dX6_setColumns_5 : decode cX6_setColumns 5 = .ok (.iload_n 1, 1) := by decide +kernel
theorem dX6_setColumns_6 : decode cX6_setColumns 6 = .ok (.iconst 3, 1) := by decide +kernel
theorem dX6_setColumns_7 : decode cX6_setColumns 7 = .ok (.if_icmp .le 7, 3) := by decide +kernel
theorem dX6_setColumns_10 : decode cX6_setColumns 10 = .ok (.sipush (-1002), 3) := by decide +kernel
theorem dX6_setColumns_13 : decode cX6_setColumns 13 = .ok (.ireturn, 1) := by decide +kernel
theorem dX6_setColumns_14 : decode cX6_setColumns 14 = .ok (.aload_n 0, 1) := by decide +kernel
theorem dX6_setColumns_15 : decode cX6_setColumns 15 = .ok (.getfield 10, 3) := by decide +kernel
theorem dX6_setColumns_18 : decode cX6_setColumns 18 = .ok (.invokevirtual 49, 3) := by decide +kernel
theorem dX6_setColumns_21 : decode cX6_setColumns 21 = .ok (.ifCond .eq 7, 3) := by decide +kernel
theorem dX6_setColumns_24 : decode cX6_setColumns 24 = .ok (.sipush (-1004), 3) := by decide +kernel
theorem dX6_setColumns_27 : decode cX6_setColumns 27 = .ok (.ireturn, 1) := by decide +kernel
theorem dX6_setColumns_28 : decode cX6_setColumns 28 = .ok (.aload_n 0, 1) := by decide +kernel
theorem dX6_setColumns_29 : decode cX6_setColumns 29 = .ok (.getfield 10, 3) := by decide +kernel
theorem dX6_setColumns_32 : decode cX6_setColumns 32 = .ok (.getfield 57, 3) := by decide +kernel
theorem dX6_setColumns_35 : decode cX6_setColumns 35 = .ok (.istore_n 2, 1) := by decide +kernel
theorem dX6_setColumns_36 : decode cX6_setColumns 36 = .ok (.iload_n 2, 1) := by decide +kernel
theorem dX6_setColumns_37 : decode cX6_setColumns 37 = .ok (.iload_n 1, 1) := by decide +kernel
theorem dX6_setColumns_38 : decode cX6_setColumns 38 = .ok (.if_icmp .ne 7, 3) := by decide +kernel
theorem dX6_setColumns_41 : decode cX6_setColumns 41 = .ok (.sipush (-1005), 3) := by decide +kernel
theorem dX6_setColumns_44 : decode cX6_setColumns 44 = .ok (.ireturn, 1) := by decide +kernel
theorem dX6_setColumns_45 : decode cX6_setColumns 45 = .ok (.aload_n 0, 1) := by decide +kernel
theorem dX6_setColumns_46 : decode cX6_setColumns 46 = .ok (.getfield 22, 3) := by decide +kernel
theorem dX6_setColumns_49 : decode cX6_setColumns 49 = .ok (.aload_n 0, 1) := by decide +kernel
theorem dX6_setColumns_50 : decode cX6_setColumns 50 = .ok (.getfield 10, 3) := by decide +kernel
theorem dX6_setColumns_53 : decode cX6_setColumns 53 = .ok (.invokevirtual 41, 3) := by decide +kernel
theorem dX6_setColumns_56 : decode cX6_setColumns 56 = .ok (.aload_n 0, 1) := by decide +kernel
theorem dX6_setColumns_57 : decode cX6_setColumns 57 = .ok (.getfield 10, 3) := by decide +kernel
theorem dX6_setColumns_60 : decode cX6_setColumns 60 = .ok (.iload_n 1, 1) := by decide +kernel
theorem dX6_setColumns_61 : decode cX6_setColumns 61 = .ok (.putfield 57, 3) := by decide +kernel
theorem dX6_setColumns_64 : decode cX6_setColumns 64 = .ok (.iload_n 2, 1) := by decide +kernel
theorem dX6_setColumns_65 : decode cX6_setColumns 65 = .ok (.ireturn, 1) := by decide +kernel
set_option maxRecDepth 20000 in
theorem ggX6_adjust_X3_isKnown : GoodIn wsX6_adjust wsX3_isKnown := goodIn_r _ [6, 7, 8, 5, 9, 10, 11, 12] (by decide +kernel) (by decide +kernel)
set_option maxRecDepth 20000 in
theorem gX6_adjust_X3_isKnown : GoodIn wsX6_adjust (va_wsS RX6 60 yX3_isKnown wsX3_isKnown) := goodIn_app (goodIn_of _ (by decide +kernel)) ggX6_adjust_X3_isKnown
set_option maxRecDepth 20000 in
theorem ggX6_adjust_X4_isEngravedPair : GoodIn wsX6_adjust wsX4_isEngravedPair := goodIn_r _ [17, 18, 19, 20, 21, 16, 22, 23, 24, 25, 26, 27, 28, 29, 30, 31, 32, 33, 34, 35, 36, 37, 38, 120, 121, 122, 123, 124, 125, 126, 127, 128, 129, 130, 131, 132] (by decide +kernel) (by decide +kernel)
set_option maxRecDepth 20000 in
theorem gX6_adjust_X4_isEngravedPair : GoodIn wsX6_adjust (wsV RX6 66 RX4 yX4_isEngravedPair wsX4_isEngravedPair) := goodIn_app (goodIn_of _ (by decide +kernel)) ggX6_adjust_X4_isEngravedPair
set_option maxRecDepth 20000 in
theorem ggX6_adjust_X4_adjustmentOf : GoodIn wsX6_adjust wsX4_adjustmentOf := goodIn_r _ [42, 43, 44, 45, 46, 47, 48, 49, 50, 51, 52, 53, 54, 55, 56, 120, 121, 122, 123, 124, 125, 126, 127, 128, 129, 133, 134, 135, 136] (by decide +kernel) (by decide +kernel)
set_option maxRecDepth 20000 in
theorem gX6_adjust_X4_adjustmentOf : GoodIn wsX6_adjust (wsV RX6 70 RX4 yX4_adjustmentOf wsX4_adjustmentOf) := goodIn_app (goodIn_of _ (by decide +kernel)) ggX6_adjust_X4_adjustmentOf
set_option maxRecDepth 20000 in
theorem ggX6_adjust_X2_isFull : GoodIn wsX6_adjust wsX2_isFull := goodIn_r _ [60, 49, 133, 134, 135, 136] (by decide +kernel) (by decide +kernel)
set_option maxRecDepth 20000 in
theorem gX6_adjust_X2_isFull : GoodIn wsX6_adjust (wsV RX6 78 RX2 yX2_isFull wsX2_isFull) := goodIn_app (goodIn_of _ (by decide +kernel)) ggX6_adjust_X2_isFull
set_option maxRecDepth 20000 in
theorem ggX6_adjust_X0_record : GoodIn wsX6_adjust wsX0_record := goodIn_r _ [65, 66, 67, 68, 69, 70, 64, 71, 72, 73, 74, 75, 16, 76, 18, 43, 77, 78, 79, 80, 23, 81, 82, 83, 84, 85, 86, 31, 87, 38, 88, 89, 90, 91, 33, 92, 93, 94, 95, 47, 96, 50, 97, 51, 56, 49, 137, 138, 139, 120, 121, 122, 123, 124, 125, 126, 127, 128, 129, 130, 131, 132, 133, 134, 135, 136] (by decide +kernel) (by decide +kernel)
set_option maxRecDepth 20000 in
theorem gX6_adjust_X0_record : GoodIn wsX6_adjust (wsV RX6 41 RX0 yX0_record wsX0_record) := goodIn_app (goodIn_of _ (by decide +kernel)) ggX6_adjust_X0_record
set_option maxRecDepth 20000 in
theorem ggX6_adjust_X2_put : GoodIn wsX6_adjust wsX2_put := goodIn_r _ [101, 56, 102, 45, 46, 47, 48, 49, 50, 51, 103, 104, 105, 106, 107, 108, 109, 110, 111, 112, 113, 114, 133, 134, 135, 136] (by decide +kernel) (by decide +kernel)
set_option maxRecDepth 20000 in
theorem gX6_adjust_X2_put : GoodIn wsX6_adjust (wsV RX6 83 RX2 yX2_put wsX2_put) := goodIn_app (goodIn_of _ (by decide +kernel)) ggX6_adjust_X2_put
theorem dX6_adjust_0 : decode cX6_adjust 0 = .ok (.iload_n 1, 1) := by decide +kernel
theorem dX6_adjust_1 : decode cX6_adjust 1 = .ok (.invokestatic 60, 3) := by decide +kernel
theorem dX6_adjust_4 : decode cX6_adjust 4 = .ok (.ifCond .eq 10, 3) := by decide +kernel
theorem dX6_adjust_7 : decode cX6_adjust 7 = .ok (.iload_n 2, 1) := by decide +kernel
theorem dX6_adjust_8 : decode cX6_adjust 8 = .ok (.invokestatic 60, 3) := by decide +kernel
theorem dX6_adjust_11 : decode cX6_adjust 11 = .ok (.ifCond .ne 7, 3) := by decide +kernel
theorem dX6_adjust_14 : decode cX6_adjust 14 = .ok (.sipush (-1001), 3) := by decide +kernel
theorem dX6_adjust_17 : decode cX6_adjust 17 = .ok (.ireturn, 1) := by decide +kernel
theorem dX6_adjust_18 : decode cX6_adjust 18 = .ok (.iload_n 3, 1) := by decide +kernel
theorem dX6_adjust_19 : decode cX6_adjust 19 = .ok (.bipush (-3), 2) := by decide +kernel
theorem dX6_adjust_21 : decode cX6_adjust 21 = .ok (.if_icmp .lt 8, 3) := by decide +kernel
theorem dX6_adjust_24 : decode cX6_adjust 24 = .ok (.iload_n 3, 1) := by decide +kernel
theorem dX6_adjust_25 : decode cX6_adjust 25 = .ok (.iconst 3, 1) := by decide +kernel
theorem dX6_adjust_26 : decode cX6_adjust 26 = .ok (.if_icmp .le 7, 3) := by decide +kernel
theorem dX6_adjust_29 : decode cX6_adjust 29 = .ok (.sipush (-1002), 3) := by decide +kernel
theorem dX6_adjust_32 : decode cX6_adjust 32 = .ok (.ireturn, 1) := by decide +kernel
theorem dX6_adjust_33 : decode cX6_adjust 33 = .ok (.aload_n 0, 1) := by decide +kernel
theorem dX6_adjust_34 : decode cX6_adjust 34 = .ok (.getfield 10, 3) := by decide +kernel
theorem dX6_adjust_37 : decode cX6_adjust 37 = .ok (.iload_n 1, 1) := by decide +kernel
theorem dX6_adjust_38 : decode cX6_adjust 38 = .ok (.iload_n 2, 1) := by decide +kernel
theorem dX6_adjust_39 : decode cX6_adjust 39 = .ok (.invokevirtual 66, 3) := by decide +kernel
theorem dX6_adjust_42 : decode cX6_adjust 42 = .ok (.ifCond .eq 7, 3) := by decide +kernel
theorem dX6_adjust_45 : decode cX6_adjust 45 = .ok (.sipush (-1004), 3) := by decide +kernel
theorem dX6_adjust_48 : decode cX6_adjust 48 = .ok (.ireturn, 1) := by decide +kernel
theorem dX6_adjust_49 : decode cX6_adjust 49 = .ok (.aload_n 0, 1) := by decide +kernel
theorem dX6_adjust_50 : decode cX6_adjust 50 = .ok (.getfield 10, 3) := by decide +kernel
theorem dX6_adjust_53 : decode cX6_adjust 53 = .ok (.iload_n 1, 1) := by decide +kernel
theorem dX6_adjust_54 : decode cX6_adjust 54 = .ok (.iload_n 2, 1) := by decide +kernel
theorem dX6_adjust_55 : decode cX6_adjust 55 = .ok (.invokevirtual 70, 3) := by decide +kernel
theorem dX6_adjust_58 : decode cX6_adjust 58 = .ok (.istore 4, 2) := by decide +kernel
theorem dX6_adjust_60 : decode cX6_adjust 60 = .ok (.iload 4, 2) := by decide +kernel
theorem dX6_adjust_62 : decode cX6_adjust 62 = .ok (.iload_n 3, 1) := by decide +kernel
theorem dX6_adjust_63 : decode cX6_adjust 63 = .ok (.if_icmp .ne 7, 3) := by decide +kernel
theorem dX6_adjust_66 : decode cX6_adjust 66 = .ok (.sipush (-1005), 3) := by decide +kernel
theorem dX6_adjust_69 : decode cX6_adjust 69 = .ok (.ireturn, 1) := by decide +kernel
theorem dX6_adjust_70 : decode cX6_adjust 70 = .ok (.iload 4, 2) := by decide +kernel
theorem dX6_adjust_72 : decode cX6_adjust 72 = .ok (.ifCond .ne 20, 3) := by decide +kernel
theorem dX6_adjust_75 : decode cX6_adjust 75 = .ok (.aload_n 0, 1) := by decide +kernel
theorem dX6_adjust_76 : decode cX6_adjust 76 = .ok (.getfield 10, 3) := by decide +kernel
theorem dX6_adjust_79 : decode cX6_adjust 79 = .ok (.getfield 74, 3) := by decide +kernel
theorem dX6_adjust_82 : decode cX6_adjust 82 = .ok (.invokevirtual 78, 3) := by decide +kernel
theorem dX6_adjust_85 : decode cX6_adjust 85 = .ok (.ifCond .eq 7, 3) := by decide +kernel
theorem dX6_adjust_88 : decode cX6_adjust 88 = .ok (.sipush (-1003), 3) := by decide +kernel
theorem dX6_adjust_91 : decode cX6_adjust 91 = .ok (.ireturn, 1) := by decide +kernel
theorem dX6_adjust_92 : decode cX6_adjust 92 = .ok (.aload_n 0, 1) := by decide +kernel
theorem dX6_adjust_93 : decode cX6_adjust 93 = .ok (.getfield 22, 3) := by decide +kernel
theorem dX6_adjust_96 : decode cX6_adjust 96 = .ok (.aload_n 0, 1) := by decide +kernel
theorem dX6_adjust_97 : decode cX6_adjust 97 = .ok (.getfield 10, 3) := by decide +kernel
theorem dX6_adjust_100 : decode cX6_adjust 100 = .ok (.invokevirtual 41, 3) := by decide +kernel
theorem dX6_adjust_103 : decode cX6_adjust 103 = .ok (.aload_n 0, 1) := by decide +kernel
theorem dX6_adjust_104 : decode cX6_adjust 104 = .ok (.getfield 10, 3) := by decide +kernel
theorem dX6_adjust_107 : decode cX6_adjust 107 = .ok (.getfield 74, 3) := by decide +kernel
theorem dX6_adjust_110 : decode cX6_adjust 110 = .ok (.iload_n 1, 1) := by decide +kernel
theorem dX6_adjust_111 : decode cX6_adjust 111 = .ok (.iload_n 2, 1) := by decide +kernel
theorem dX6_adjust_112 : decode cX6_adjust 112 = .ok (.iload_n 3, 1) := by decide +kernel
theorem dX6_adjust_113 : decode cX6_adjust 113 = .ok (.invokevirtual 83, 3) := by decide +kernel
theorem dX6_adjust_116 : decode cX6_adjust 116 = .ok (.iload 4, 2) := by decide +kernel
theorem dX6_adjust_118 : decode cX6_adjust 118 = .ok (.ireturn, 1) := by decide +kernel
set_option maxRecDepth 20000 in
theorem ggX6_type_X5_isFull : GoodIn wsX6_type wsX5_isFull := goodIn_r _ [6, 7, 18, 19] (by decide +kernel) (by decide +kernel)
set_option maxRecDepth 20000 in
theorem gX6_type_X5_isFull : GoodIn wsX6_type (wsV RX6 87 RX5 yX5_isFull wsX5_isFull) := goodIn_app (goodIn_of _ (by decide +kernel)) ggX6_type_X5_isFull
set_option maxRecDepth 20000 in
theorem ggX6_type_X5_append : GoodIn wsX6_type wsX5_append := goodIn_r _ [11, 7, 12, 18, 19] (by decide +kernel) (by decide +kernel)
set_option maxRecDepth 20000 in
theorem gX6_type_X5_append : GoodIn wsX6_type (wsV RX6 88 RX5 yX5_append wsX5_append) := goodIn_app (goodIn_of _ (by decide +kernel)) ggX6_type_X5_append
theorem dX6_type_0 : decode cX6_type 0 = .ok (.aload_n 0, 1) := by decide +kernel
theorem dX6_type_1 : decode cX6_type 1 = .ok (.getfield 29, 3) := by decide +kernel
theorem dX6_type_4 : decode cX6_type 4 = .ok (.invokevirtual 87, 3) := by decide +kernel
theorem dX6_type_7 : decode cX6_type 7 = .ok (.ifCond .eq 7, 3) := by decide +kernel
theorem dX6_type_10 : decode cX6_type 10 = .ok (.sipush (-1003), 3) := by decide +kernel
theorem dX6_type_13 : decode cX6_type 13 = .ok (.ireturn, 1) := by decide +kernel
theorem dX6_type_14 : decode cX6_type 14 = .ok (.aload_n 0, 1) := by decide +kernel
theorem dX6_type_15 : decode cX6_type 15 = .ok (.getfield 29, 3) := by decide +kernel
theorem dX6_type_18 : decode cX6_type 18 = .ok (.iload_n 1, 1) := by decide +kernel
theorem dX6_type_19 : decode cX6_type 19 = .ok (.invokevirtual 88, 3) := by decide +kernel
theorem dX6_type_22 : decode cX6_type 22 = .ok (.aload_n 0, 1) := by decide +kernel
theorem dX6_type_23 : decode cX6_type 23 = .ok (.getfield 29, 3) := by decide +kernel
theorem dX6_type_26 : decode cX6_type 26 = .ok (.getfield 92, 3) := by decide +kernel
theorem dX6_type_29 : decode cX6_type 29 = .ok (.ireturn, 1) := by decide +kernel
theorem dX6_clearText_0 : decode cX6_clearText 0 = .ok (.aload_n 0, 1) := by decide +kernel
theorem dX6_clearText_1 : decode cX6_clearText 1 = .ok (.getfield 29, 3) := by decide +kernel
theorem dX6_clearText_4 : decode cX6_clearText 4 = .ok (.getfield 92, 3) := by decide +kernel
theorem dX6_clearText_7 : decode cX6_clearText 7 = .ok (.istore_n 1, 1) := by decide +kernel
theorem dX6_clearText_8 : decode cX6_clearText 8 = .ok (.aload_n 0, 1) := by decide +kernel
theorem dX6_clearText_9 : decode cX6_clearText 9 = .ok (.getfield 29, 3) := by decide +kernel
theorem dX6_clearText_12 : decode cX6_clearText 12 = .ok (.iconst 0, 1) := by decide +kernel
theorem dX6_clearText_13 : decode cX6_clearText 13 = .ok (.putfield 92, 3) := by decide +kernel
theorem dX6_clearText_16 : decode cX6_clearText 16 = .ok (.iload_n 1, 1) := by decide +kernel
theorem dX6_clearText_17 : decode cX6_clearText 17 = .ok (.ireturn, 1) := by decide +kernel
set_option maxRecDepth 20000 in
theorem ggX6_readNames_X5_fault : GoodIn wsX6_readNames wsX5_fault := goodIn_r _ [8, 9, 10, 11, 12, 7, 13, 14, 15, 16, 17, 18, 19, 20, 21, 22, 23, 24, 114, 115] (by decide +kernel) (by decide +kernel)
set_option maxRecDepth 20000 in
theorem gX6_readNames_X5_fault : GoodIn wsX6_readNames (wsV RX6 95 RX5 yX5_fault wsX5_fault) := goodIn_app (goodIn_of _ (by decide +kernel)) ggX6_readNames_X5_fault
set_option maxRecDepth 20000 in
theorem ggX6_readNames_X5_namesInIt : GoodIn wsX6_readNames wsX5_namesInIt := goodIn_r _ [28, 9, 10, 11, 12, 7, 13, 14, 114, 115] (by decide +kernel) (by decide +kernel)
set_option maxRecDepth 20000 in
theorem gX6_readNames_X5_namesInIt : GoodIn wsX6_readNames (wsV RX6 99 RX5 yX5_namesInIt wsX5_namesInIt) := goodIn_app (goodIn_of _ (by decide +kernel)) ggX6_readNames_X5_namesInIt
set_option maxRecDepth 20000 in
theorem ggX6_readNames_X0_record : GoodIn wsX6_readNames wsX0_record := goodIn_r _ [33, 34, 35, 36, 37, 38, 32, 39, 40, 41, 42, 43, 44, 45, 46, 47, 48, 49, 50, 51, 52, 53, 54, 55, 56, 57, 58, 59, 60, 61, 62, 63, 64, 65, 66, 67, 68, 69, 70, 71, 72, 73, 74, 75, 76, 77, 116, 117, 118, 101, 102, 103, 104, 105, 106, 107, 108, 109, 110, 111, 112, 113, 119, 120, 121, 122] (by decide +kernel) (by decide +kernel)
set_option maxRecDepth 20000 in
theorem gX6_readNames_X0_record : GoodIn wsX6_readNames (wsV RX6 41 RX0 yX0_record wsX0_record) := goodIn_app (goodIn_of _ (by decide +kernel)) ggX6_readNames_X0_record
set_option maxRecDepth 20000 in
theorem ggX6_readNames_X6_addNamesOfText : GoodIn wsX6_readNames wsX6_addNamesOfText := goodIn_r _ [82, 2, 1, 83, 84, 85, 59, 86, 67, 66, 87, 11, 12, 7, 13, 14, 88, 89, 90, 91, 61, 92, 93, 94, 95, 96, 97, 98, 99, 100, 101, 102, 103, 104, 105, 106, 107, 108, 109, 110, 114, 115, 111, 112, 113] (by decide +kernel) (by decide +kernel)
set_option maxRecDepth 20000 in
theorem gX6_readNames_X6_addNamesOfText : GoodIn wsX6_readNames (wsV RX6 111 RX6 yX6_addNamesOfText wsX6_addNamesOfText) := goodIn_app (goodIn_of _ (by decide +kernel)) ggX6_readNames_X6_addNamesOfText
theorem dX6_readNames_0 : decode cX6_readNames 0 = .ok (.aload_n 0, 1) := by decide +kernel
theorem dX6_readNames_1 : decode cX6_readNames 1 = .ok (.getfield 29, 3) := by decide +kernel
theorem dX6_readNames_4 : decode cX6_readNames 4 = .ok (.invokevirtual 95, 3) := by decide +kernel
theorem dX6_readNames_7 : decode cX6_readNames 7 = .ok (.istore_n 1, 1) := by decide +kernel
theorem dX6_readNames_8 : decode cX6_readNames 8 = .ok (.iload_n 1, 1) := by decide +kernel
theorem dX6_readNames_9 : decode cX6_readNames 9 = .ok (.iconst (-1), 1) := by decide +kernel
theorem dX6_readNames_10 : decode cX6_readNames 10 = .ok (.if_icmp .eq 8, 3) := by decide +kernel
theorem dX6_readNames_13 : decode cX6_readNames 13 = .ok (.bipush (-100), 2) := by decide +kernel
theorem dX6_readNames_15 : decode cX6_readNames 15 = .ok (.iload_n 1, 1) := by decide +kernel
theorem dX6_readNames_16 : decode cX6_readNames 16 = .ok (.isub, 1) := by decide +kernel
theorem dX6_readNames_17 : decode cX6_readNames 17 = .ok (.ireturn, 1) := by decide +kernel
theorem dX6_readNames_18 : decode cX6_readNames 18 = .ok (.aload_n 0, 1) := by decide +kernel
theorem dX6_readNames_19 : decode cX6_readNames 19 = .ok (.getfield 29, 3) := by decide +kernel
theorem dX6_readNames_22 : decode cX6_readNames 22 = .ok (.invokevirtual 99, 3) := by decide +kernel
theorem dX6_readNames_25 : decode cX6_readNames 25 = .ok (.istore_n 2, 1) := by decide +kernel
theorem dX6_readNames_26 : decode cX6_readNames 26 = .ok (.aload_n 0, 1) := by decide +kernel
theorem dX6_readNames_27 : decode cX6_readNames 27 = .ok (.getfield 10, 3) := by decide +kernel
theorem dX6_readNames_30 : decode cX6_readNames 30 = .ok (.getfield 102, 3) := by decide +kernel
theorem dX6_readNames_33 : decode cX6_readNames 33 = .ok (.getfield 106, 3) := by decide +kernel
theorem dX6_readNames_36 : decode cX6_readNames 36 = .ok (.iload_n 2, 1) := by decide +kernel
theorem dX6_readNames_37 : decode cX6_readNames 37 = .ok (.iadd, 1) := by decide +kernel
theorem dX6_readNames_38 : decode cX6_readNames 38 = .ok (.bipush 20, 2) := by decide +kernel
theorem dX6_readNames_40 : decode cX6_readNames 40 = .ok (.if_icmp .le 7, 3) := by decide +kernel
theorem dX6_readNames_43 : decode cX6_readNames 43 = .ok (.sipush (-1003), 3) := by decide +kernel
theorem dX6_readNames_46 : decode cX6_readNames 46 = .ok (.ireturn, 1) := by decide +kernel
theorem dX6_readNames_47 : decode cX6_readNames 47 = .ok (.aload_n 0, 1) := by decide +kernel
theorem dX6_readNames_48 : decode cX6_readNames 48 = .ok (.getfield 22, 3) := by decide +kernel
theorem dX6_readNames_51 : decode cX6_readNames 51 = .ok (.aload_n 0, 1) := by decide +kernel
theorem dX6_readNames_52 : decode cX6_readNames 52 = .ok (.getfield 10, 3) := by decide +kernel
theorem dX6_readNames_55 : decode cX6_readNames 55 = .ok (.invokevirtual 41, 3) := by decide +kernel
theorem dX6_readNames_58 : decode cX6_readNames 58 = .ok (.aload_n 0, 1) := by decide +kernel
theorem dX6_readNames_59 : decode cX6_readNames 59 = .ok (.invokevirtual 111, 3) := by decide +kernel
theorem dX6_readNames_62 : decode cX6_readNames 62 = .ok (.iload_n 2, 1) := by decide +kernel
theorem dX6_readNames_63 : decode cX6_readNames 63 = .ok (.ireturn, 1) := by decide +kernel
set_option maxRecDepth 20000 in
theorem ggX6_addNamesOfText_X1_begin : GoodIn wsX6_addNamesOfText wsX1_begin := goodIn_r _ [7, 8, 9, 42, 43, 44] (by decide +kernel) (by decide +kernel)
set_option maxRecDepth 20000 in
theorem gX6_addNamesOfText_X1_begin : GoodIn wsX6_addNamesOfText (wsV RX6 114 RX1 yX1_begin wsX1_begin) := goodIn_app (goodIn_of _ (by decide +kernel)) ggX6_addNamesOfText_X1_begin
set_option maxRecDepth 20000 in
theorem ggX6_addNamesOfText_X5_characterAt : GoodIn wsX6_addNamesOfText wsX5_characterAt := goodIn_r _ [14, 15, 40, 41] (by decide +kernel) (by decide +kernel)
set_option maxRecDepth 20000 in
theorem gX6_addNamesOfText_X5_characterAt : GoodIn wsX6_addNamesOfText (wsV RX6 117 RX5 yX5_characterAt wsX5_characterAt) := goodIn_app (goodIn_of _ (by decide +kernel)) ggX6_addNamesOfText_X5_characterAt
set_option maxRecDepth 20000 in
theorem ggX6_addNamesOfText_X1_append : GoodIn wsX6_addNamesOfText wsX1_append := goodIn_r _ [19, 8, 9, 20, 21, 22, 23, 6, 24, 42, 43, 44] (by decide +kernel) (by decide +kernel)
set_option maxRecDepth 20000 in
theorem gX6_addNamesOfText_X1_append : GoodIn wsX6_addNamesOfText (wsV RX6 121 RX1 yX1_append wsX1_append) := goodIn_app (goodIn_of _ (by decide +kernel)) ggX6_addNamesOfText_X1_append
theorem dX6_addNamesOfText_0 : decode cX6_addNamesOfText 0 = .ok (.aload_n 0, 1) := by decide +kernel
theorem dX6_addNamesOfText_1 : decode cX6_addNamesOfText 1 = .ok (.getfield 10, 3) := by decide +kernel
theorem dX6_addNamesOfText_4 : decode cX6_addNamesOfText 4 = .ok (.getfield 102, 3) := by decide +kernel
theorem dX6_addNamesOfText_7 : decode cX6_addNamesOfText 7 = .ok (.invokevirtual 114, 3) := by decide +kernel
theorem dX6_addNamesOfText_10 : decode cX6_addNamesOfText 10 = .ok (.iconst 0, 1) := by decide +kernel
theorem dX6_addNamesOfText_11 : decode cX6_addNamesOfText 11 = .ok (.istore_n 1, 1) := by decide +kernel
theorem dX6_addNamesOfText_12 : decode cX6_addNamesOfText 12 = .ok (.iload_n 1, 1) := by decide +kernel
theorem dX6_addNamesOfText_13 : decode cX6_addNamesOfText 13 = .ok (.aload_n 0, 1) := by decide +kernel
theorem dX6_addNamesOfText_14 : decode cX6_addNamesOfText 14 = .ok (.getfield 29, 3) := by decide +kernel
theorem dX6_addNamesOfText_17 : decode cX6_addNamesOfText 17 = .ok (.getfield 92, 3) := by decide +kernel
theorem dX6_addNamesOfText_20 : decode cX6_addNamesOfText 20 = .ok (.if_icmp .ge 48, 3) := by decide +kernel
theorem dX6_addNamesOfText_23 : decode cX6_addNamesOfText 23 = .ok (.aload_n 0, 1) := by decide +kernel
theorem dX6_addNamesOfText_24 : decode cX6_addNamesOfText 24 = .ok (.getfield 29, 3) := by decide +kernel
theorem dX6_addNamesOfText_27 : decode cX6_addNamesOfText 27 = .ok (.iload_n 1, 1) := by decide +kernel
theorem dX6_addNamesOfText_28 : decode cX6_addNamesOfText 28 = .ok (.invokevirtual 117, 3) := by decide +kernel
theorem dX6_addNamesOfText_31 : decode cX6_addNamesOfText 31 = .ok (.istore_n 2, 1) := by decide +kernel
theorem dX6_addNamesOfText_32 : decode cX6_addNamesOfText 32 = .ok (.iload_n 2, 1) := by decide +kernel
theorem dX6_addNamesOfText_33 : decode cX6_addNamesOfText 33 = .ok (.bipush 59, 2) := by decide +kernel
theorem dX6_addNamesOfText_35 : decode cX6_addNamesOfText 35 = .ok (.if_icmp .ne 16, 3) := by decide +kernel
theorem dX6_addNamesOfText_38 : decode cX6_addNamesOfText 38 = .ok (.aload_n 0, 1) := by decide +kernel
theorem dX6_addNamesOfText_39 : decode cX6_addNamesOfText 39 = .ok (.getfield 10, 3) := by decide +kernel
theorem dX6_addNamesOfText_42 : decode cX6_addNamesOfText 42 = .ok (.getfield 102, 3) := by decide +kernel
theorem dX6_addNamesOfText_45 : decode cX6_addNamesOfText 45 = .ok (.invokevirtual 114, 3) := by decide +kernel
theorem dX6_addNamesOfText_48 : decode cX6_addNamesOfText 48 = .ok (.goto 14, 3) := by decide +kernel
theorem dX6_addNamesOfText_51 : decode cX6_addNamesOfText 51 = .ok (.aload_n 0, 1) := by decide +kernel
theorem dX6_addNamesOfText_52 : decode cX6_addNamesOfText 52 = .ok (.getfield 10, 3) := by decide +kernel
theorem dX6_addNamesOfText_55 : decode cX6_addNamesOfText 55 = .ok (.getfield 102, 3) := by decide +kernel
theorem dX6_addNamesOfText_58 : decode cX6_addNamesOfText 58 = .ok (.iload_n 2, 1) := by decide +kernel
theorem dX6_addNamesOfText_59 : decode cX6_addNamesOfText 59 = .ok (.invokevirtual 121, 3) := by decide +kernel
theorem dX6_addNamesOfText_62 : decode cX6_addNamesOfText 62 = .ok (.iinc 1 1, 3) := by decide +kernel
theorem dX6_addNamesOfText_65 : decode cX6_addNamesOfText 65 = .ok (.goto (-53), 3) := by decide +kernel
theorem dX6_addNamesOfText_68 : decode cX6_addNamesOfText 68 = .ok (.return_, 1) := by decide +kernel
set_option maxRecDepth 20000 in
theorem ggX6_remove_X1_isTaken : GoodIn wsX6_remove wsX1_isTaken := goodIn_r _ [7, 8, 84, 85, 86] (by decide +kernel) (by decide +kernel)
set_option maxRecDepth 20000 in
theorem gX6_remove_X1_isTaken : GoodIn wsX6_remove (wsV RX6 122 RX1 yX1_isTaken wsX1_isTaken) := goodIn_app (goodIn_of _ (by decide +kernel)) ggX6_remove_X1_isTaken
set_option maxRecDepth 20000 in
theorem ggX6_remove_X4_isEngravedFrom : GoodIn wsX6_remove wsX4_isEngravedFrom := goodIn_r _ [13, 14, 74, 75, 76, 77, 78, 79, 80, 81, 82, 83] (by decide +kernel) (by decide +kernel)
set_option maxRecDepth 20000 in
theorem gX6_remove_X4_isEngravedFrom : GoodIn wsX6_remove (wsV RX6 126 RX4 yX4_isEngravedFrom wsX4_isEngravedFrom) := goodIn_app (goodIn_of _ (by decide +kernel)) ggX6_remove_X4_isEngravedFrom
set_option maxRecDepth 20000 in
theorem ggX6_remove_X0_record : GoodIn wsX6_remove wsX0_record := goodIn_r _ [19, 20, 21, 22, 23, 24, 18, 25, 26, 27, 28, 29, 12, 30, 31, 32, 33, 34, 35, 36, 14, 37, 38, 39, 40, 41, 42, 6, 43, 44, 45, 46, 47, 48, 49, 8, 50, 51, 52, 53, 54, 55, 56, 57, 58, 59, 87, 88, 89, 74, 75, 76, 77, 78, 79, 80, 81, 82, 83, 84, 85, 86, 90, 91, 92, 93] (by decide +kernel) (by decide +kernel)
set_option maxRecDepth 20000 in
theorem gX6_remove_X0_record : GoodIn wsX6_remove (wsV RX6 41 RX0 yX0_record wsX0_record) := goodIn_app (goodIn_of _ (by decide +kernel)) ggX6_remove_X0_record
set_option maxRecDepth 20000 in
theorem ggX6_remove_X1_takeOut : GoodIn wsX6_remove wsX1_takeOut := goodIn_r _ [63, 8, 64, 4, 5, 6, 7, 65, 66, 67, 68, 44, 49, 84, 85, 86] (by decide +kernel) (by decide +kernel)
set_option maxRecDepth 20000 in
theorem gX6_remove_X1_takeOut : GoodIn wsX6_remove (wsV RX6 129 RX1 yX1_takeOut wsX1_takeOut) := goodIn_app (goodIn_of _ (by decide +kernel)) ggX6_remove_X1_takeOut
theorem dX6_remove_0 : decode cX6_remove 0 = .ok (.aload_n 0, 1) := by decide +kernel
theorem dX6_remove_1 : decode cX6_remove 1 = .ok (.getfield 10, 3) := by decide +kernel
theorem dX6_remove_4 : decode cX6_remove 4 = .ok (.getfield 102, 3) := by decide +kernel
theorem dX6_remove_7 : decode cX6_remove 7 = .ok (.iload_n 1, 1) := by decide +kernel
theorem dX6_remove_8 : decode cX6_remove 8 = .ok (.invokevirtual 122, 3) := by decide +kernel
theorem dX6_remove_11 : decode cX6_remove 11 = .ok (.ifCond .ne 7, 3) := by decide +kernel
theorem dX6_remove_14 : decode cX6_remove 14 = .ok (.sipush (-1001), 3) := by decide +kernel
theorem dX6_remove_17 : decode cX6_remove 17 = .ok (.ireturn, 1) := by decide +kernel
theorem dX6_remove_18 : decode cX6_remove 18 = .ok (.aload_n 0, 1) := by decide +kernel
theorem dX6_remove_19 : decode cX6_remove 19 = .ok (.getfield 10, 3) := by decide +kernel
theorem dX6_remove_22 : decode cX6_remove 22 = .ok (.iload_n 1, 1) := by decide +kernel
theorem dX6_remove_23 : decode cX6_remove 23 = .ok (.invokevirtual 126, 3) := by decide +kernel
theorem dX6_remove_26 : decode cX6_remove 26 = .ok (.ifCond .eq 7, 3) := by decide +kernel
theorem dX6_remove_29 : decode cX6_remove 29 = .ok (.sipush (-1004), 3) := by decide +kernel
theorem dX6_remove_32 : decode cX6_remove 32 = .ok (.ireturn, 1) := by decide +kernel
theorem dX6_remove_33 : decode cX6_remove 33 = .ok (.aload_n 0, 1) := by decide +kernel
theorem dX6_remove_34 : decode cX6_remove 34 = .ok (.getfield 22, 3) := by decide +kernel
theorem dX6_remove_37 : decode cX6_remove 37 = .ok (.aload_n 0, 1) := by decide +kernel
theorem dX6_remove_38 : decode cX6_remove 38 = .ok (.getfield 10, 3) := by decide +kernel
theorem dX6_remove_41 : decode cX6_remove 41 = .ok (.invokevirtual 41, 3) := by decide +kernel
theorem dX6_remove_44 : decode cX6_remove 44 = .ok (.aload_n 0, 1) := by decide +kernel
theorem dX6_remove_45 : decode cX6_remove 45 = .ok (.getfield 10, 3) := by decide +kernel
theorem dX6_remove_48 : decode cX6_remove 48 = .ok (.getfield 102, 3) := by decide +kernel
theorem dX6_remove_51 : decode cX6_remove 51 = .ok (.iload_n 1, 1) := by decide +kernel
theorem dX6_remove_52 : decode cX6_remove 52 = .ok (.invokevirtual 129, 3) := by decide +kernel
theorem dX6_remove_55 : decode cX6_remove 55 = .ok (.aload_n 0, 1) := by decide +kernel
theorem dX6_remove_56 : decode cX6_remove 56 = .ok (.getfield 10, 3) := by decide +kernel
theorem dX6_remove_59 : decode cX6_remove 59 = .ok (.getfield 102, 3) := by decide +kernel
theorem dX6_remove_62 : decode cX6_remove 62 = .ok (.getfield 106, 3) := by decide +kernel
theorem dX6_remove_65 : decode cX6_remove 65 = .ok (.ireturn, 1) := by decide +kernel
set_option maxRecDepth 20000 in
theorem ggX6_swap_X1_isTaken : GoodIn wsX6_swap wsX1_isTaken := goodIn_r _ [7, 8, 150, 151, 152] (by decide +kernel) (by decide +kernel)
set_option maxRecDepth 20000 in
theorem gX6_swap_X1_isTaken : GoodIn wsX6_swap (wsV RX6 122 RX1 yX1_isTaken wsX1_isTaken) := goodIn_app (goodIn_of _ (by decide +kernel)) ggX6_swap_X1_isTaken
set_option maxRecDepth 20000 in
theorem ggX6_swap_X4_isEngraved : GoodIn wsX6_swap wsX4_isEngraved := goodIn_r _ [13, 14, 140, 141, 142, 143, 144, 145, 146, 147, 148, 149] (by decide +kernel) (by decide +kernel)
set_option maxRecDepth 20000 in
theorem gX6_swap_X4_isEngraved : GoodIn wsX6_swap (wsV RX6 133 RX4 yX4_isEngraved wsX4_isEngraved) := goodIn_app (goodIn_of _ (by decide +kernel)) ggX6_swap_X4_isEngraved
set_option maxRecDepth 20000 in
theorem ggX6_swap_X0_record : GoodIn wsX6_swap wsX0_record := goodIn_r _ [19, 20, 21, 22, 23, 24, 18, 25, 26, 27, 28, 29, 12, 30, 31, 32, 33, 34, 35, 36, 14, 37, 38, 39, 40, 41, 42, 6, 43, 44, 45, 46, 47, 48, 49, 8, 50, 51, 52, 53, 54, 55, 56, 57, 58, 59, 153, 154, 155, 140, 141, 142, 143, 144, 145, 146, 147, 148, 149, 150, 151, 152, 156, 157, 158, 159] (by decide +kernel) (by decide +kernel)
set_option maxRecDepth 20000 in
theorem gX6_swap_X0_record : GoodIn wsX6_swap (wsV RX6 41 RX0 yX0_record wsX0_record) := goodIn_app (goodIn_of _ (by decide +kernel)) ggX6_swap_X0_record
set_option maxRecDepth 20000 in
theorem ggX6_swap_X1_exchange : GoodIn wsX6_swap wsX1_exchange := goodIn_r _ [63, 44, 49, 64, 4, 5, 6, 7, 8, 150, 151, 152] (by decide +kernel) (by decide +kernel)
set_option maxRecDepth 20000 in
theorem gX6_swap_X1_exchange : GoodIn wsX6_swap (wsV RX6 136 RX1 yX1_exchange wsX1_exchange) := goodIn_app (goodIn_of _ (by decide +kernel)) ggX6_swap_X1_exchange
set_option maxRecDepth 20000 in
theorem ggX6_swap_X4_sizeNow : GoodIn wsX6_swap wsX4_sizeNow := goodIn_r _ [68, 37, 33, 34, 31, 69, 70, 71, 12, 72, 14, 73, 74, 75, 76, 77, 78, 79, 80, 81, 82, 83, 84, 85, 86, 87, 6, 88, 49, 89, 90, 91, 92, 93, 94, 95, 96, 44, 97, 98, 99, 100, 101, 102, 103, 104, 32, 105, 106, 107, 53, 108, 59, 55, 57, 109, 110, 111, 112, 58, 113, 114, 115, 116, 117, 118, 119, 35, 120, 121, 122, 123, 36, 124, 125, 126, 127, 128, 129, 130, 131, 132, 133, 134, 140, 141, 142, 143, 144, 145, 146, 147, 148, 149, 150, 151, 152, 156, 157, 158, 159] (by decide +kernel) (by decide +kernel)
set_option maxRecDepth 20000 in
theorem gX6_swap_X4_sizeNow : GoodIn wsX6_swap (wsV RX6 140 RX4 yX4_sizeNow wsX4_sizeNow) := goodIn_app (goodIn_of _ (by decide +kernel)) ggX6_swap_X4_sizeNow
theorem dX6_swap_0 : decode cX6_swap 0 = .ok (.aload_n 0, 1) := by decide +kernel
theorem dX6_swap_1 : decode cX6_swap 1 = .ok (.getfield 10, 3) := by decide +kernel
theorem dX6_swap_4 : decode cX6_swap 4 = .ok (.getfield 102, 3) := by decide +kernel
theorem dX6_swap_7 : decode cX6_swap 7 = .ok (.iload_n 1, 1) := by decide +kernel
theorem dX6_swap_8 : decode cX6_swap 8 = .ok (.invokevirtual 122, 3) := by decide +kernel
theorem dX6_swap_11 : decode cX6_swap 11 = .ok (.ifCond .eq 17, 3) := by decide +kernel
theorem dX6_swap_14 : decode cX6_swap 14 = .ok (.aload_n 0, 1) := by decide +kernel
theorem dX6_swap_15 : decode cX6_swap 15 = .ok (.getfield 10, 3) := by decide +kernel
theorem dX6_swap_18 : decode cX6_swap 18 = .ok (.getfield 102, 3) := by decide +kernel
theorem dX6_swap_21 : decode cX6_swap 21 = .ok (.iload_n 2, 1) := by decide +kernel
theorem dX6_swap_22 : decode cX6_swap 22 = .ok (.invokevirtual 122, 3) := by decide +kernel
theorem dX6_swap_25 : decode cX6_swap 25 = .ok (.ifCond .ne 7, 3) := by decide +kernel
theorem dX6_swap_28 : decode cX6_swap 28 = .ok (.sipush (-1001), 3) := by decide +kernel
theorem dX6_swap_31 : decode cX6_swap 31 = .ok (.ireturn, 1) := by decide +kernel
theorem dX6_swap_32 : decode cX6_swap 32 = .ok (.aload_n 0, 1) := by decide +kernel
theorem dX6_swap_33 : decode cX6_swap 33 = .ok (.getfield 10, 3) := by decide +kernel
theorem dX6_swap_36 : decode cX6_swap 36 = .ok (.iload_n 1, 1) := by decide +kernel
theorem dX6_swap_37 : decode cX6_swap 37 = .ok (.invokevirtual 133, 3) := by decide +kernel
theorem dX6_swap_40 : decode cX6_swap 40 = .ok (.ifCond .ne 14, 3) := by decide +kernel
theorem dX6_swap_43 : decode cX6_swap 43 = .ok (.aload_n 0, 1) := by decide +kernel
theorem dX6_swap_44 : decode cX6_swap 44 = .ok (.getfield 10, 3) := by decide +kernel
theorem dX6_swap_47 : decode cX6_swap 47 = .ok (.iload_n 2, 1) := by decide +kernel
theorem dX6_swap_48 : decode cX6_swap 48 = .ok (.invokevirtual 133, 3) := by decide +kernel
theorem dX6_swap_51 : decode cX6_swap 51 = .ok (.ifCond .eq 7, 3) := by decide +kernel
theorem dX6_swap_54 : decode cX6_swap 54 = .ok (.sipush (-1004), 3) := by decide +kernel
theorem dX6_swap_57 : decode cX6_swap 57 = .ok (.ireturn, 1) := by decide +kernel
theorem dX6_swap_58 : decode cX6_swap 58 = .ok (.iload_n 1, 1) := by decide +kernel
theorem dX6_swap_59 : decode cX6_swap 59 = .ok (.iload_n 2, 1) := by decide +kernel
theorem dX6_swap_60 : decode cX6_swap 60 = .ok (.if_icmp .ne 7, 3) := by decide +kernel
theorem dX6_swap_63 : decode cX6_swap 63 = .ok (.sipush (-1005), 3) := by decide +kernel
theorem dX6_swap_66 : decode cX6_swap 66 = .ok (.ireturn, 1) := by decide +kernel
theorem dX6_swap_67 : decode cX6_swap 67 = .ok (.aload_n 0, 1) := by decide +kernel
theorem dX6_swap_68 : decode cX6_swap 68 = .ok (.getfield 22, 3) := by decide +kernel
theorem dX6_swap_71 : decode cX6_swap 71 = .ok (.aload_n 0, 1) := by decide +kernel
theorem dX6_swap_72 : decode cX6_swap 72 = .ok (.getfield 10, 3) := by decide +kernel
theorem dX6_swap_75 : decode cX6_swap 75 = .ok (.invokevirtual 41, 3) := by decide +kernel
theorem dX6_swap_78 : decode cX6_swap 78 = .ok (.aload_n 0, 1) := by decide +kernel
theorem dX6_swap_79 : decode cX6_swap 79 = .ok (.getfield 10, 3) := by decide +kernel
theorem dX6_swap_82 : decode cX6_swap 82 = .ok (.getfield 102, 3) := by decide +kernel
theorem dX6_swap_85 : decode cX6_swap 85 = .ok (.iload_n 1, 1) := by decide +kernel
theorem dX6_swap_86 : decode cX6_swap 86 = .ok (.iload_n 2, 1) := by decide +kernel
theorem dX6_swap_87 : decode cX6_swap 87 = .ok (.invokevirtual 136, 3) := by decide +kernel
theorem dX6_swap_90 : decode cX6_swap 90 = .ok (.aload_n 0, 1) := by decide +kernel
theorem dX6_swap_91 : decode cX6_swap 91 = .ok (.getfield 10, 3) := by decide +kernel
theorem dX6_swap_94 : decode cX6_swap 94 = .ok (.invokevirtual 140, 3) := by decide +kernel
theorem dX6_swap_97 : decode cX6_swap 97 = .ok (.ireturn, 1) := by decide +kernel
set_option maxRecDepth 20000 in
theorem ggX6_engrave_X1_isTaken : GoodIn wsX6_engrave wsX1_isTaken := goodIn_r _ [7, 8, 183, 184, 185] (by decide +kernel) (by decide +kernel)
set_option maxRecDepth 20000 in
theorem gX6_engrave_X1_isTaken : GoodIn wsX6_engrave (wsV RX6 122 RX1 yX1_isTaken wsX1_isTaken) := goodIn_app (goodIn_of _ (by decide +kernel)) ggX6_engrave_X1_isTaken
set_option maxRecDepth 20000 in
theorem ggX6_engrave_X4_sizeNow : GoodIn wsX6_engrave wsX4_sizeNow := goodIn_r _ [13, 14, 15, 16, 17, 18, 19, 20, 12, 21, 22, 23, 24, 25, 26, 27, 28, 29, 30, 31, 32, 33, 34, 35, 36, 37, 6, 38, 39, 40, 41, 42, 43, 44, 45, 46, 47, 48, 49, 50, 51, 52, 53, 54, 55, 56, 57, 58, 59, 60, 61, 62, 63, 64, 65, 66, 67, 68, 69, 70, 71, 72, 73, 74, 75, 76, 77, 78, 79, 80, 81, 82, 83, 84, 85, 86, 87, 88, 89, 90, 91, 92, 93, 94, 173, 174, 175, 176, 177, 178, 179, 180, 181, 182, 183, 184, 185, 186, 187, 188, 189] (by decide +kernel) (by decide +kernel)
set_option maxRecDepth 20000 in
theorem gX6_engrave_X4_sizeNow : GoodIn wsX6_engrave (wsV RX6 140 RX4 yX4_sizeNow wsX4_sizeNow) := goodIn_app (goodIn_of _ (by decide +kernel)) ggX6_engrave_X4_sizeNow
set_option maxRecDepth 20000 in
theorem ggX6_engrave_X4_fits : GoodIn wsX6_engrave wsX4_fits := goodIn_r _ [98, 15, 16, 78, 31, 32, 33, 12, 34, 17, 35, 36, 37, 6, 38, 39, 40, 41, 42, 43, 44, 45, 46, 47, 48, 49, 50, 51, 52, 53, 54, 55, 56, 57, 27, 28, 29, 30, 58, 59, 60, 61, 62, 63, 64, 65, 66, 67, 68, 69, 70, 71, 72, 73, 91, 92, 93, 94, 83, 84, 85, 86, 87, 88, 89, 90, 99, 100, 101, 102, 173, 174, 175, 176, 177, 178, 179, 180, 181, 182, 183, 184, 185, 186, 187, 188, 189] (by decide +kernel) (by decide +kernel)
set_option maxRecDepth 20000 in
theorem gX6_engrave_X4_fits : GoodIn wsX6_engrave (wsV RX6 143 RX4 yX4_fits wsX4_fits) := goodIn_app (goodIn_of _ (by decide +kernel)) ggX6_engrave_X4_fits
set_option maxRecDepth 20000 in
theorem ggX6_engrave_X4_isEngraved : GoodIn wsX6_engrave wsX4_isEngraved := goodIn_r _ [106, 22, 173, 174, 175, 176, 177, 178, 179, 180, 181, 182] (by decide +kernel) (by decide +kernel)
set_option maxRecDepth 20000 in
theorem gX6_engrave_X4_isEngraved : GoodIn wsX6_engrave (wsV RX6 133 RX4 yX4_isEngraved wsX4_isEngraved) := goodIn_app (goodIn_of _ (by decide +kernel)) ggX6_engrave_X4_isEngraved
set_option maxRecDepth 20000 in
theorem ggX6_engrave_X0_record : GoodIn wsX6_engrave wsX0_record := goodIn_r _ [111, 112, 113, 114, 115, 116, 110, 117, 118, 119, 120, 121, 12, 122, 17, 57, 15, 16, 78, 83, 22, 14, 123, 124, 125, 126, 127, 6, 128, 48, 129, 130, 131, 132, 39, 8, 133, 134, 135, 61, 136, 64, 137, 65, 70, 63, 190, 191, 192, 173, 174, 175, 176, 177, 178, 179, 180, 181, 182, 183, 184, 185, 186, 187, 188, 189] (by decide +kernel) (by decide +kernel)
set_option maxRecDepth 20000 in
theorem gX6_engrave_X0_record : GoodIn wsX6_engrave (wsV RX6 41 RX0 yX0_record wsX0_record) := goodIn_app (goodIn_of _ (by decide +kernel)) ggX6_engrave_X0_record
set_option maxRecDepth 20000 in
theorem ggX6_engrave_X4_markEngraved : GoodIn wsX6_engrave wsX4_markEngraved := goodIn_r _ [141, 22, 14, 173, 174, 175, 176, 177, 178, 179, 180, 181, 182] (by decide +kernel) (by decide +kernel)
set_option maxRecDepth 20000 in
theorem gX6_engrave_X4_markEngraved : GoodIn wsX6_engrave (wsV RX6 146 RX4 yX4_markEngraved wsX4_markEngraved) := goodIn_app (goodIn_of _ (by decide +kernel)) ggX6_engrave_X4_markEngraved
set_option maxRecDepth 20000 in
theorem ggX6_engrave_X4_beginOf : GoodIn wsX6_engrave wsX4_beginOf := goodIn_r _ [145, 15, 146, 147, 29, 148, 27, 28, 30, 91, 92, 93, 12, 94, 78, 83, 84, 85, 86, 87, 88, 89, 90, 149, 150, 151, 152, 153, 154, 155, 156, 157, 158, 159, 160, 17, 35, 36, 37, 6, 38, 39, 44, 45, 46, 47, 48, 161, 162, 51, 163, 164, 165, 166, 167, 49, 50, 52, 53, 54, 55, 56, 57, 58, 59, 60, 61, 62, 63, 64, 65, 66, 67, 68, 69, 70, 71, 72, 73, 31, 32, 33, 34, 40, 41, 42, 43, 173, 174, 175, 176, 177, 178, 179, 180, 181, 182, 183, 184, 185, 186, 187, 188, 189] (by decide +kernel) (by decide +kernel)
set_option maxRecDepth 20000 in
theorem gX6_engrave_X4_beginOf : GoodIn wsX6_engrave (wsV RX6 149 RX4 yX4_beginOf wsX4_beginOf) := goodIn_app (goodIn_of _ (by decide +kernel)) ggX6_engrave_X4_beginOf
theorem dX6_engrave_0 : decode cX6_engrave 0 = .ok (.aload_n 0, 1) := by decide +kernel
theorem dX6_engrave_1 : decode cX6_engrave 1 = .ok (.getfield 10, 3) := by decide +kernel
theorem dX6_engrave_4 : decode cX6_engrave 4 = .ok (.getfield 102, 3) := by decide +kernel
theorem dX6_engrave_7 : decode cX6_engrave 7 = .ok (.iload_n 1, 1) := by decide +kernel
theorem dX6_engrave_8 : decode cX6_engrave 8 = .ok (.invokevirtual 122, 3) := by decide +kernel
theorem dX6_engrave_11 : decode cX6_engrave 11 = .ok (.ifCond .ne 7, 3) := by decide +kernel
theorem dX6_engrave_14 : decode cX6_engrave 14 = .ok (.sipush (-1001), 3) := by decide +kernel
theorem dX6_engrave_17 : decode cX6_engrave 17 = .ok (.ireturn, 1) := by decide +kernel
theorem dX6_engrave_18 : decode cX6_engrave 18 = .ok (.aload_n 0, 1) := by decide +kernel
theorem dX6_engrave_19 : decode cX6_engrave 19 = .ok (.getfield 10, 3) := by decide +kernel
theorem dX6_engrave_22 : decode cX6_engrave 22 = .ok (.invokevirtual 140, 3) := by decide +kernel
theorem dX6_engrave_25 : decode cX6_engrave 25 = .ok (.istore_n 2, 1) := by decide +kernel
theorem dX6_engrave_26 : decode cX6_engrave 26 = .ok (.aload_n 0, 1) := by decide +kernel
theorem dX6_engrave_27 : decode cX6_engrave 27 = .ok (.getfield 10, 3) := by decide +kernel
theorem dX6_engrave_30 : decode cX6_engrave 30 = .ok (.iload_n 1, 1) := by decide +kernel
theorem dX6_engrave_31 : decode cX6_engrave 31 = .ok (.iload_n 2, 1) := by decide +kernel
theorem dX6_engrave_32 : decode cX6_engrave 32 = .ok (.invokevirtual 143, 3) := by decide +kernel
theorem dX6_engrave_35 : decode cX6_engrave 35 = .ok (.ifCond .ne 7, 3) := by decide +kernel
theorem dX6_engrave_38 : decode cX6_engrave 38 = .ok (.sipush (-1004), 3) := by decide +kernel
theorem dX6_engrave_41 : decode cX6_engrave 41 = .ok (.ireturn, 1) := by decide +kernel
theorem dX6_engrave_42 : decode cX6_engrave 42 = .ok (.aload_n 0, 1) := by decide +kernel
theorem dX6_engrave_43 : decode cX6_engrave 43 = .ok (.getfield 10, 3) := by decide +kernel
theorem dX6_engrave_46 : decode cX6_engrave 46 = .ok (.iload_n 1, 1) := by decide +kernel
theorem dX6_engrave_47 : decode cX6_engrave 47 = .ok (.invokevirtual 133, 3) := by decide +kernel
theorem dX6_engrave_50 : decode cX6_engrave 50 = .ok (.ifCond .eq 7, 3) := by decide +kernel
theorem dX6_engrave_53 : decode cX6_engrave 53 = .ok (.sipush (-1005), 3) := by decide +kernel
theorem dX6_engrave_56 : decode cX6_engrave 56 = .ok (.ireturn, 1) := by decide +kernel
theorem dX6_engrave_57 : decode cX6_engrave 57 = .ok (.aload_n 0, 1) := by decide +kernel
theorem dX6_engrave_58 : decode cX6_engrave 58 = .ok (.getfield 22, 3) := by decide +kernel
theorem dX6_engrave_61 : decode cX6_engrave 61 = .ok (.aload_n 0, 1) := by decide +kernel
theorem dX6_engrave_62 : decode cX6_engrave 62 = .ok (.getfield 10, 3) := by decide +kernel
theorem dX6_engrave_65 : decode cX6_engrave 65 = .ok (.invokevirtual 41, 3) := by decide +kernel
theorem dX6_engrave_68 : decode cX6_engrave 68 = .ok (.aload_n 0, 1) := by decide +kernel
theorem dX6_engrave_69 : decode cX6_engrave 69 = .ok (.getfield 10, 3) := by decide +kernel
theorem dX6_engrave_72 : decode cX6_engrave 72 = .ok (.iconst 1, 1) := by decide +kernel
theorem dX6_engrave_73 : decode cX6_engrave 73 = .ok (.iload_n 1, 1) := by decide +kernel
theorem dX6_engrave_74 : decode cX6_engrave 74 = .ok (.ishl, 1) := by decide +kernel
theorem dX6_engrave_75 : decode cX6_engrave 75 = .ok (.iload_n 2, 1) := by decide +kernel
theorem dX6_engrave_76 : decode cX6_engrave 76 = .ok (.invokevirtual 146, 3) := by decide +kernel
theorem dX6_engrave_79 : decode cX6_engrave 79 = .ok (.aload_n 0, 1) := by decide +kernel
theorem dX6_engrave_80 : decode cX6_engrave 80 = .ok (.getfield 10, 3) := by decide +kernel
theorem dX6_engrave_83 : decode cX6_engrave 83 = .ok (.iload_n 1, 1) := by decide +kernel
theorem dX6_engrave_84 : decode cX6_engrave 84 = .ok (.iload_n 2, 1) := by decide +kernel
theorem dX6_engrave_85 : decode cX6_engrave 85 = .ok (.invokevirtual 149, 3) := by decide +kernel
theorem dX6_engrave_88 : decode cX6_engrave 88 = .ok (.ireturn, 1) := by decide +kernel
set_option maxRecDepth 20000 in
theorem ggX6_engraveAll_X4_sizeNow : GoodIn wsX6_engraveAll wsX4_sizeNow := goodIn_r _ [7, 8, 9, 10, 11, 12, 13, 14, 6, 15, 16, 17, 18, 19, 20, 21, 22, 23, 24, 25, 26, 27, 28, 29, 30, 31, 32, 33, 34, 35, 36, 37, 38, 39, 40, 41, 42, 43, 44, 45, 46, 47, 48, 49, 50, 51, 52, 53, 54, 55, 56, 57, 58, 59, 60, 61, 62, 63, 64, 65, 66, 67, 68, 69, 70, 71, 72, 73, 74, 75, 76, 77, 78, 79, 80, 81, 82, 83, 84, 85, 86, 87, 88, 89, 154, 155, 156, 157, 158, 159, 160, 161, 162, 163, 164, 165, 166, 167, 168, 169, 170] (by decide +kernel) (by decide +kernel)
set_option maxRecDepth 20000 in
theorem gX6_engraveAll_X4_sizeNow : GoodIn wsX6_engraveAll (wsV RX6 140 RX4 yX4_sizeNow wsX4_sizeNow) := goodIn_app (goodIn_of _ (by decide +kernel)) ggX6_engraveAll_X4_sizeNow
set_option maxRecDepth 20000 in
theorem ggX6_engraveAll_X4_engravableSeats : GoodIn wsX6_engraveAll wsX4_engravableSeats := goodIn_r _ [93, 11, 94, 95, 96, 6, 97, 16, 98, 99, 100, 101, 9, 10, 73, 25, 26, 27, 28, 29, 30, 31, 32, 33, 34, 35, 36, 37, 38, 39, 40, 41, 42, 43, 44, 45, 46, 47, 48, 49, 50, 51, 52, 21, 22, 23, 24, 53, 54, 55, 56, 57, 58, 59, 60, 61, 62, 63, 64, 65, 66, 67, 68, 86, 87, 88, 89, 78, 79, 80, 81, 82, 83, 84, 85, 102, 103, 104, 105, 154, 155, 156, 157, 158, 159, 160, 161, 162, 163, 164, 165, 166, 167, 168, 169, 170] (by decide +kernel) (by decide +kernel)
set_option maxRecDepth 20000 in
theorem gX6_engraveAll_X4_engravableSeats : GoodIn wsX6_engraveAll (wsV RX6 152 RX4 yX4_engravableSeats wsX4_engravableSeats) := goodIn_app (goodIn_of _ (by decide +kernel)) ggX6_engraveAll_X4_engravableSeats
set_option maxRecDepth 20000 in
theorem ggX6_engraveAll_X0_record : GoodIn wsX6_engraveAll wsX0_record := goodIn_r _ [110, 111, 112, 113, 114, 115, 109, 116, 117, 118, 119, 120, 6, 121, 11, 52, 9, 10, 73, 78, 16, 8, 122, 123, 124, 125, 126, 32, 127, 43, 128, 129, 130, 131, 34, 132, 133, 134, 135, 56, 136, 59, 137, 60, 65, 58, 171, 172, 173, 154, 155, 156, 157, 158, 159, 160, 161, 162, 163, 164, 165, 166, 167, 168, 169, 170] (by decide +kernel) (by decide +kernel)
set_option maxRecDepth 20000 in
theorem gX6_engraveAll_X0_record : GoodIn wsX6_engraveAll (wsV RX6 41 RX0 yX0_record wsX0_record) := goodIn_app (goodIn_of _ (by decide +kernel)) ggX6_engraveAll_X0_record
set_option maxRecDepth 20000 in
theorem ggX6_engraveAll_X4_markEngraved : GoodIn wsX6_engraveAll wsX4_markEngraved := goodIn_r _ [141, 16, 8, 154, 155, 156, 157, 158, 159, 160, 161, 162, 163] (by decide +kernel) (by decide +kernel)
set_option maxRecDepth 20000 in
theorem gX6_engraveAll_X4_markEngraved : GoodIn wsX6_engraveAll (wsV RX6 146 RX4 yX4_markEngraved wsX4_markEngraved) := goodIn_app (goodIn_of _ (by decide +kernel)) ggX6_engraveAll_X4_markEngraved
set_option maxRecDepth 20000 in
theorem ggX6_engraveAll_J6_bitCount_0f7a4 : GoodIn wsX6_engraveAll wsJ6_bitCount_0f7a4 := goodIn_r _ [145, 146, 147, 148] (by decide +kernel) (by decide +kernel)
set_option maxRecDepth 20000 in
theorem gX6_engraveAll_J6_bitCount_0f7a4 : GoodIn wsX6_engraveAll (va_wsS RX6 156 yJ6_bitCount_0f7a4 wsJ6_bitCount_0f7a4) := goodIn_app (goodIn_of _ (by decide +kernel)) ggX6_engraveAll_J6_bitCount_0f7a4
theorem dX6_engraveAll_0 : decode cX6_engraveAll 0 = .ok (.aload_n 0, 1) := by decide +kernel
theorem dX6_engraveAll_1 : decode cX6_engraveAll 1 = .ok (.getfield 10, 3) := by decide +kernel
theorem dX6_engraveAll_4 : decode cX6_engraveAll 4 = .ok (.invokevirtual 140, 3) := by decide +kernel
theorem dX6_engraveAll_7 : decode cX6_engraveAll 7 = .ok (.istore_n 1, 1) := by decide +kernel
theorem dX6_engraveAll_8 : decode cX6_engraveAll 8 = .ok (.aload_n 0, 1) := by decide +kernel
theorem dX6_engraveAll_9 : decode cX6_engraveAll 9 = .ok (.getfield 10, 3) := by decide +kernel
theorem dX6_engraveAll_12 : decode cX6_engraveAll 12 = .ok (.iload_n 1, 1) := by decide +kernel
theorem dX6_engraveAll_13 : decode cX6_engraveAll 13 = .ok (.invokevirtual 152, 3) := by decide +kernel
theorem dX6_engraveAll_16 : decode cX6_engraveAll 16 = .ok (.istore_n 2, 1) := by decide +kernel
theorem dX6_engraveAll_17 : decode cX6_engraveAll 17 = .ok (.iload_n 2, 1) := by decide +kernel
theorem dX6_engraveAll_18 : decode cX6_engraveAll 18 = .ok (.ifCond .ne 7, 3) := by decide +kernel
theorem dX6_engraveAll_21 : decode cX6_engraveAll 21 = .ok (.sipush (-1005), 3) := by decide +kernel
theorem dX6_engraveAll_24 : decode cX6_engraveAll 24 = .ok (.ireturn, 1) := by decide +kernel
theorem dX6_engraveAll_25 : decode cX6_engraveAll 25 = .ok (.aload_n 0, 1) := by decide +kernel
theorem dX6_engraveAll_26 : decode cX6_engraveAll 26 = .ok (.getfield 22, 3) := by decide +kernel
theorem dX6_engraveAll_29 : decode cX6_engraveAll 29 = .ok (.aload_n 0, 1) := by decide +kernel
theorem dX6_engraveAll_30 : decode cX6_engraveAll 30 = .ok (.getfield 10, 3) := by decide +kernel
theorem dX6_engraveAll_33 : decode cX6_engraveAll 33 = .ok (.invokevirtual 41, 3) := by decide +kernel
theorem dX6_engraveAll_36 : decode cX6_engraveAll 36 = .ok (.aload_n 0, 1) := by decide +kernel
theorem dX6_engraveAll_37 : decode cX6_engraveAll 37 = .ok (.getfield 10, 3) := by decide +kernel
theorem dX6_engraveAll_40 : decode cX6_engraveAll 40 = .ok (.iload_n 2, 1) := by decide +kernel
theorem dX6_engraveAll_41 : decode cX6_engraveAll 41 = .ok (.iload_n 1, 1) := by decide +kernel
theorem dX6_engraveAll_42 : decode cX6_engraveAll 42 = .ok (.invokevirtual 146, 3) := by decide +kernel
theorem dX6_engraveAll_45 : decode cX6_engraveAll 45 = .ok (.iload_n 2, 1) := by decide +kernel
theorem dX6_engraveAll_46 : decode cX6_engraveAll 46 = .ok (.invokestatic 156, 3) := by decide +kernel
theorem dX6_engraveAll_49 : decode cX6_engraveAll 49 = .ok (.ireturn, 1) := by decide +kernel
set_option maxRecDepth 20000 in
theorem ggX6_undo_X0_takeLatest : GoodIn wsX6_undo wsX0_takeLatest := goodIn_r _ [7, 8, 9, 10, 11, 6, 12, 13, 14, 15, 16, 17, 18, 19, 20, 21, 22, 23, 24, 25, 26, 27, 28, 29, 30, 31, 32, 33, 34, 35, 36, 37, 38, 39, 40, 41, 42, 43, 44, 45, 46, 47, 48, 49, 50, 51, 57, 58, 59, 60, 61, 62, 63, 64, 65, 66, 67, 68, 69, 70, 71, 72, 73, 74, 75, 76] (by decide +kernel) (by decide +kernel)
set_option maxRecDepth 20000 in
theorem gX6_undo_X0_takeLatest : GoodIn wsX6_undo (wsV RX6 162 RX0 yX0_takeLatest wsX0_takeLatest) := goodIn_app (goodIn_of _ (by decide +kernel)) ggX6_undo_X0_takeLatest
theorem dX6_undo_0 : decode cX6_undo 0 = .ok (.aload_n 0, 1) := by decide +kernel
theorem dX6_undo_1 : decode cX6_undo 1 = .ok (.getfield 22, 3) := by decide +kernel
theorem dX6_undo_4 : decode cX6_undo 4 = .ok (.getfield 161, 3) := by decide +kernel
theorem dX6_undo_7 : decode cX6_undo 7 = .ok (.ifCond .ne 7, 3) := by decide +kernel
theorem dX6_undo_10 : decode cX6_undo 10 = .ok (.sipush (-1005), 3) := by decide +kernel
theorem dX6_undo_13 : decode cX6_undo 13 = .ok (.ireturn, 1) := by decide +kernel
theorem dX6_undo_14 : decode cX6_undo 14 = .ok (.aload_n 0, 1) := by decide +kernel
theorem dX6_undo_15 : decode cX6_undo 15 = .ok (.getfield 22, 3) := by decide +kernel
theorem dX6_undo_18 : decode cX6_undo 18 = .ok (.aload_n 0, 1) := by decide +kernel
theorem dX6_undo_19 : decode cX6_undo 19 = .ok (.getfield 10, 3) := by decide +kernel
theorem dX6_undo_22 : decode cX6_undo 22 = .ok (.invokevirtual 162, 3) := by decide +kernel
theorem dX6_undo_25 : decode cX6_undo 25 = .ok (.aload_n 0, 1) := by decide +kernel
theorem dX6_undo_26 : decode cX6_undo 26 = .ok (.getfield 22, 3) := by decide +kernel
theorem dX6_undo_29 : decode cX6_undo 29 = .ok (.getfield 161, 3) := by decide +kernel
theorem dX6_undo_32 : decode cX6_undo 32 = .ok (.ireturn, 1) := by decide +kernel
set_option maxRecDepth 20000 in
theorem ggX6_restore_X0_record : GoodIn wsX6_restore wsX0_record := goodIn_r _ [9, 10, 11, 12, 13, 14, 8, 15, 16, 17, 18, 19, 20, 21, 22, 23, 24, 25, 26, 27, 28, 29, 30, 31, 32, 33, 34, 35, 36, 37, 38, 39, 40, 41, 42, 43, 44, 45, 46, 47, 48, 49, 50, 51, 52, 53, 73, 74, 75, 60, 61, 62, 63, 64, 65, 66, 67, 68, 69, 70, 71, 72, 76, 77, 78, 79] (by decide +kernel) (by decide +kernel)
set_option maxRecDepth 20000 in
theorem gX6_restore_X0_record : GoodIn wsX6_restore (wsV RX6 41 RX0 yX0_record wsX0_record) := goodIn_app (goodIn_of _ (by decide +kernel)) ggX6_restore_X0_record
set_option maxRecDepth 20000 in
theorem ggX6_restore_X4_copyFrom : GoodIn wsX6_restore wsX4_copyFrom := goodIn_r _ [21, 22, 23, 24, 25, 26, 27, 28, 29, 30, 31, 32, 33, 34, 35, 36, 37, 38, 39, 40, 41, 42, 43, 44, 45, 46, 47, 48, 49, 50, 51, 52, 53, 60, 61, 62, 63, 64, 65, 66, 67, 68, 69, 70, 71, 72, 76, 77, 78, 79] (by decide +kernel) (by decide +kernel)
set_option maxRecDepth 20000 in
theorem gX6_restore_X4_copyFrom : GoodIn wsX6_restore (wsV RX6 165 RX4 yX4_copyFrom wsX4_copyFrom) := goodIn_app (goodIn_of _ (by decide +kernel)) ggX6_restore_X4_copyFrom
theorem dX6_restore_0 : decode cX6_restore 0 = .ok (.aload_n 0, 1) := by decide +kernel
theorem dX6_restore_1 : decode cX6_restore 1 = .ok (.getfield 33, 3) := by decide +kernel
theorem dX6_restore_4 : decode cX6_restore 4 = .ok (.ifCond .ne 7, 3) := by decide +kernel
theorem dX6_restore_7 : decode cX6_restore 7 = .ok (.sipush (-1005), 3) := by decide +kernel
theorem dX6_restore_10 : decode cX6_restore 10 = .ok (.ireturn, 1) := by decide +kernel
theorem dX6_restore_11 : decode cX6_restore 11 = .ok (.aload_n 0, 1) := by decide +kernel
theorem dX6_restore_12 : decode cX6_restore 12 = .ok (.getfield 22, 3) := by decide +kernel
theorem dX6_restore_15 : decode cX6_restore 15 = .ok (.aload_n 0, 1) := by decide +kernel
theorem dX6_restore_16 : decode cX6_restore 16 = .ok (.getfield 10, 3) := by decide +kernel
theorem dX6_restore_19 : decode cX6_restore 19 = .ok (.invokevirtual 41, 3) := by decide +kernel
theorem dX6_restore_22 : decode cX6_restore 22 = .ok (.aload_n 0, 1) := by decide +kernel
theorem dX6_restore_23 : decode cX6_restore 23 = .ok (.getfield 10, 3) := by decide +kernel
theorem dX6_restore_26 : decode cX6_restore 26 = .ok (.aload_n 0, 1) := by decide +kernel
theorem dX6_restore_27 : decode cX6_restore 27 = .ok (.getfield 16, 3) := by decide +kernel
theorem dX6_restore_30 : decode cX6_restore 30 = .ok (.invokevirtual 165, 3) := by decide +kernel
theorem dX6_restore_33 : decode cX6_restore 33 = .ok (.aload_n 0, 1) := by decide +kernel
theorem dX6_restore_34 : decode cX6_restore 34 = .ok (.getfield 10, 3) := by decide +kernel
theorem dX6_restore_37 : decode cX6_restore 37 = .ok (.getfield 102, 3) := by decide +kernel
theorem dX6_restore_40 : decode cX6_restore 40 = .ok (.getfield 106, 3) := by decide +kernel
theorem dX6_restore_43 : decode cX6_restore 43 = .ok (.ireturn, 1) := by decide +kernel
set_option maxRecDepth 20000 in
theorem ggX6_name_X1_isTaken : GoodIn wsX6_name wsX1_isTaken := goodIn_r _ [6, 7, 165, 166, 167] (by decide +kernel) (by decide +kernel)
set_option maxRecDepth 20000 in
theorem gX6_name_X1_isTaken : GoodIn wsX6_name (wsV RX6 122 RX1 yX1_isTaken wsX1_isTaken) := goodIn_app (goodIn_of _ (by decide +kernel)) ggX6_name_X1_isTaken
set_option maxRecDepth 20000 in
theorem ggX6_name_X1_lengthOf : GoodIn wsX6_name wsX1_lengthOf := goodIn_r _ [11, 12, 165, 166, 167] (by decide +kernel) (by decide +kernel)
set_option maxRecDepth 20000 in
theorem gX6_name_X1_lengthOf : GoodIn wsX6_name (wsV RX6 168 RX1 yX1_lengthOf wsX1_lengthOf) := goodIn_app (goodIn_of _ (by decide +kernel)) ggX6_name_X1_lengthOf
set_option maxRecDepth 20000 in
theorem ggX6_name_X4_unitsOf : GoodIn wsX6_name wsX4_unitsOf := goodIn_r _ [17, 18, 19, 9, 10, 5, 11, 12, 20, 21, 22, 16, 23, 24, 25, 26, 27, 28, 29, 30, 31, 32, 33, 34, 35, 36, 37, 38, 39, 40, 41, 42, 43, 44, 45, 46, 47, 48, 49, 50, 51, 52, 53, 54, 55, 56, 57, 155, 156, 157, 158, 159, 160, 161, 162, 163, 164, 165, 166, 167, 168, 169, 170, 171] (by decide +kernel) (by decide +kernel)
set_option maxRecDepth 20000 in
theorem gX6_name_X4_unitsOf : GoodIn wsX6_name (wsV RX6 171 RX4 yX4_unitsOf wsX4_unitsOf) := goodIn_app (goodIn_of _ (by decide +kernel)) ggX6_name_X4_unitsOf
set_option maxRecDepth 20000 in
theorem ggX6_name_X4_isEngraved : GoodIn wsX6_name wsX4_isEngraved := goodIn_r _ [61, 62, 155, 156, 157, 158, 159, 160, 161, 162, 163, 164] (by decide +kernel) (by decide +kernel)
set_option maxRecDepth 20000 in
theorem gX6_name_X4_isEngraved : GoodIn wsX6_name (wsV RX6 133 RX4 yX4_isEngraved wsX4_isEngraved) := goodIn_app (goodIn_of _ (by decide +kernel)) ggX6_name_X4_isEngraved
set_option maxRecDepth 20000 in
theorem ggX6_name_X4_rowOf : GoodIn wsX6_name wsX4_rowOf := goodIn_r _ [66, 67, 68, 69, 16, 70, 71, 72, 73, 74, 155, 156, 157, 158, 159, 160, 161, 162, 163, 164] (by decide +kernel) (by decide +kernel)
set_option maxRecDepth 20000 in
theorem gX6_name_X4_rowOf : GoodIn wsX6_name (wsV RX6 174 RX4 yX4_rowOf wsX4_rowOf) := goodIn_app (goodIn_of _ (by decide +kernel)) ggX6_name_X4_rowOf
set_option maxRecDepth 20000 in
theorem ggX6_name_X4_columnOf : GoodIn wsX6_name wsX4_columnOf := goodIn_r _ [78, 67, 155, 156, 157, 158, 159, 160, 161, 162, 163, 164] (by decide +kernel) (by decide +kernel)
set_option maxRecDepth 20000 in
theorem gX6_name_X4_columnOf : GoodIn wsX6_name (wsV RX6 177 RX4 yX4_columnOf wsX4_columnOf) := goodIn_app (goodIn_of _ (by decide +kernel)) ggX6_name_X4_columnOf
set_option maxRecDepth 20000 in
theorem ggX6_name_X4_inkOf : GoodIn wsX6_name wsX4_inkOf := goodIn_r _ [82, 18, 19, 9, 10, 5, 11, 12, 24, 25, 26, 27, 28, 83, 84, 31, 85, 155, 156, 157, 158, 159, 160, 161, 162, 163, 164, 165, 166, 167] (by decide +kernel) (by decide +kernel)
set_option maxRecDepth 20000 in
theorem gX6_name_X4_inkOf : GoodIn wsX6_name (wsV RX6 180 RX4 yX4_inkOf wsX4_inkOf) := goodIn_app (goodIn_of _ (by decide +kernel)) ggX6_name_X4_inkOf
set_option maxRecDepth 20000 in
theorem ggX6_name_X4_sizeNow : GoodIn wsX6_name wsX4_sizeNow := goodIn_r _ [89, 90, 91, 92, 18, 93, 94, 95, 16, 96, 62, 97, 98, 99, 100, 38, 39, 40, 41, 101, 14, 15, 17, 19, 9, 10, 5, 11, 12, 20, 21, 22, 23, 24, 25, 26, 27, 28, 29, 30, 31, 32, 33, 34, 35, 36, 37, 42, 43, 44, 45, 46, 47, 48, 49, 50, 51, 52, 53, 54, 55, 56, 57, 102, 103, 104, 105, 106, 107, 108, 109, 110, 67, 68, 69, 70, 71, 72, 73, 74, 111, 112, 113, 114, 155, 156, 157, 158, 159, 160, 161, 162, 163, 164, 165, 166, 167, 168, 169, 170, 171] (by decide +kernel) (by decide +kernel)
set_option maxRecDepth 20000 in
theorem gX6_name_X4_sizeNow : GoodIn wsX6_name (wsV RX6 140 RX4 yX4_sizeNow wsX4_sizeNow) := goodIn_app (goodIn_of _ (by decide +kernel)) ggX6_name_X4_sizeNow
set_option maxRecDepth 20000 in
theorem ggX6_name_X6_nameBySize : GoodIn wsX6_name wsX6_nameBySize := goodIn_r _ [119, 1, 120, 121, 122, 16, 123, 91, 92, 106, 101, 14, 15, 17, 18, 19, 9, 10, 5, 11, 12, 20, 21, 22, 23, 24, 25, 26, 27, 28, 29, 30, 31, 32, 33, 34, 35, 36, 37, 38, 39, 40, 41, 42, 43, 44, 45, 46, 47, 48, 49, 50, 51, 52, 53, 54, 55, 56, 57, 111, 112, 113, 114, 67, 68, 69, 70, 71, 72, 73, 74, 124, 64, 65, 66, 125, 126, 127, 128, 129, 130, 131, 132, 133, 134, 135, 136, 76, 77, 78, 137, 80, 81, 82, 83, 84, 85, 138, 139, 140, 141, 142, 143, 144, 145, 13, 146, 147, 148, 149, 150, 151, 152, 153, 154, 155, 156, 157, 158, 159, 160, 161, 162, 163, 164, 165, 166, 167, 168, 169, 170, 171] (by decide +kernel) (by decide +kernel)
set_option maxRecDepth 20000 in
theorem gX6_name_X6_nameBySize : GoodIn wsX6_name (wsV RX6 183 RX6 yX6_nameBySize wsX6_nameBySize) := goodIn_app (goodIn_of _ (by decide +kernel)) ggX6_name_X6_nameBySize
theorem dX6_name_0 : decode cX6_name 0 = .ok (.aload_n 0, 1) := by decide +kernel
theorem dX6_name_1 : decode cX6_name 1 = .ok (.getfield 10, 3) := by decide +kernel
theorem dX6_name_4 : decode cX6_name 4 = .ok (.getfield 102, 3) := by decide +kernel
theorem dX6_name_7 : decode cX6_name 7 = .ok (.iload_n 1, 1) := by decide +kernel
theorem dX6_name_8 : decode cX6_name 8 = .ok (.invokevirtual 122, 3) := by decide +kernel
theorem dX6_name_11 : decode cX6_name 11 = .ok (.ifCond .ne 7, 3) := by decide +kernel
theorem dX6_name_14 : decode cX6_name 14 = .ok (.sipush (-1001), 3) := by decide +kernel
theorem dX6_name_17 : decode cX6_name 17 = .ok (.ireturn, 1) := by decide +kernel
theorem dX6_name_18 : decode cX6_name 18 = .ok (.iload_n 2, 1) := by decide +kernel
theorem dX6_name_19 : decode cX6_name 19 = .ok (.tableswitch 122 0 10 #[57, 69, 78, 95, 104, 122, 122, 122, 122, 122, 113], 57) := by decide +kernel
theorem dX6_name_76 : decode cX6_name 76 = .ok (.aload_n 0, 1) := by decide +kernel
theorem dX6_name_77 : decode cX6_name 77 = .ok (.getfield 10, 3) := by decide +kernel
theorem dX6_name_80 : decode cX6_name 80 = .ok (.getfield 102, 3) := by decide +kernel
theorem dX6_name_83 : decode cX6_name 83 = .ok (.iload_n 1, 1) := by decide +kernel
theorem dX6_name_84 : decode cX6_name 84 = .ok (.invokevirtual 168, 3) := by decide +kernel
theorem dX6_name_87 : decode cX6_name 87 = .ok (.ireturn, 1) := by decide +kernel
theorem dX6_name_88 : decode cX6_name 88 = .ok (.aload_n 0, 1) := by decide +kernel
theorem dX6_name_89 : decode cX6_name 89 = .ok (.getfield 10, 3) := by decide +kernel
theorem dX6_name_92 : decode cX6_name 92 = .ok (.iload_n 1, 1) := by decide +kernel
theorem dX6_name_93 : decode cX6_name 93 = .ok (.invokevirtual 171, 3) := by decide +kernel
theorem dX6_name_96 : decode cX6_name 96 = .ok (.ireturn, 1) := by decide +kernel
theorem dX6_name_97 : decode cX6_name 97 = .ok (.aload_n 0, 1) := by decide +kernel
theorem dX6_name_98 : decode cX6_name 98 = .ok (.getfield 10, 3) := by decide +kernel
theorem dX6_name_101 : decode cX6_name 101 = .ok (.iload_n 1, 1) := by decide +kernel
theorem dX6_name_102 : decode cX6_name 102 = .ok (.invokevirtual 133, 3) := by decide +kernel
theorem dX6_name_105 : decode cX6_name 105 = .ok (.ifCond .eq 7, 3) := by decide +kernel
theorem dX6_name_108 : decode cX6_name 108 = .ok (.iconst 1, 1) := by decide +kernel
theorem dX6_name_109 : decode cX6_name 109 = .ok (.goto 4, 3) := by decide +kernel
theorem dX6_name_112 : decode cX6_name 112 = .ok (.iconst 0, 1) := by decide +kernel
theorem dX6_name_113 : decode cX6_name 113 = .ok (.ireturn, 1) := by decide +kernel
theorem dX6_name_114 : decode cX6_name 114 = .ok (.aload_n 0, 1) := by decide +kernel
theorem dX6_name_115 : decode cX6_name 115 = .ok (.getfield 10, 3) := by decide +kernel
theorem dX6_name_118 : decode cX6_name 118 = .ok (.iload_n 1, 1) := by decide +kernel
theorem dX6_name_119 : decode cX6_name 119 = .ok (.invokevirtual 174, 3) := by decide +kernel
theorem dX6_name_122 : decode cX6_name 122 = .ok (.ireturn, 1) := by decide +kernel
theorem dX6_name_123 : decode cX6_name 123 = .ok (.aload_n 0, 1) := by decide +kernel
theorem dX6_name_124 : decode cX6_name 124 = .ok (.getfield 10, 3) := by decide +kernel
theorem dX6_name_127 : decode cX6_name 127 = .ok (.iload_n 1, 1) := by decide +kernel
theorem dX6_name_128 : decode cX6_name 128 = .ok (.invokevirtual 177, 3) := by decide +kernel
theorem dX6_name_131 : decode cX6_name 131 = .ok (.ireturn, 1) := by decide +kernel
theorem dX6_name_132 : decode cX6_name 132 = .ok (.aload_n 0, 1) := by decide +kernel
theorem dX6_name_133 : decode cX6_name 133 = .ok (.getfield 10, 3) := by decide +kernel
theorem dX6_name_136 : decode cX6_name 136 = .ok (.iload_n 1, 1) := by decide +kernel
theorem dX6_name_137 : decode cX6_name 137 = .ok (.invokevirtual 180, 3) := by decide +kernel
theorem dX6_name_140 : decode cX6_name 140 = .ok (.ireturn, 1) := by decide +kernel
theorem dX6_name_141 : decode cX6_name 141 = .ok (.aload_n 0, 1) := by decide +kernel
theorem dX6_name_142 : decode cX6_name 142 = .ok (.iload_n 1, 1) := by decide +kernel
theorem dX6_name_143 : decode cX6_name 143 = .ok (.iload_n 2, 1) := by decide +kernel
theorem dX6_name_144 : decode cX6_name 144 = .ok (.aload_n 0, 1) := by decide +kernel
theorem dX6_name_145 : decode cX6_name 145 = .ok (.getfield 10, 3) := by decide +kernel
theorem dX6_name_148 : decode cX6_name 148 = .ok (.invokevirtual 140, 3) := by decide +kernel
theorem dX6_name_151 : decode cX6_name 151 = .ok (.invokevirtual 183, 3) := by decide +kernel
theorem dX6_name_154 : decode cX6_name 154 = .ok (.ireturn, 1) := by decide +kernel
set_option maxRecDepth 20000 in
theorem ggX6_nameBySize_X4_fits : GoodIn wsX6_nameBySize wsX4_fits := goodIn_r _ [6, 7, 8, 9, 10, 11, 12, 5, 13, 14, 15, 16, 17, 18, 19, 20, 21, 22, 23, 24, 25, 26, 27, 28, 29, 30, 31, 32, 33, 34, 35, 36, 37, 38, 39, 40, 41, 42, 43, 44, 45, 46, 47, 48, 49, 50, 51, 52, 53, 54, 55, 56, 57, 58, 59, 60, 61, 62, 63, 64, 65, 66, 67, 68, 69, 70, 71, 72, 73, 74, 115, 116, 117, 118, 119, 120, 121, 122, 123, 124, 125, 126, 127, 128, 129, 130, 131] (by decide +kernel) (by decide +kernel)
set_option maxRecDepth 20000 in
theorem gX6_nameBySize_X4_fits : GoodIn wsX6_nameBySize (wsV RX6 143 RX4 yX4_fits wsX4_fits) := goodIn_app (goodIn_of _ (by decide +kernel)) ggX6_nameBySize_X4_fits
set_option maxRecDepth 20000 in
theorem ggX6_nameBySize_X4_beginOf : GoodIn wsX6_nameBySize wsX4_beginOf := goodIn_r _ [78, 7, 79, 80, 41, 81, 39, 40, 42, 59, 60, 61, 5, 62, 9, 63, 64, 65, 66, 67, 68, 69, 70, 82, 83, 84, 85, 86, 87, 88, 89, 90, 91, 92, 93, 14, 15, 16, 17, 18, 19, 20, 25, 26, 27, 28, 29, 94, 95, 32, 96, 97, 98, 99, 100, 30, 31, 33, 34, 35, 36, 37, 38, 43, 44, 45, 46, 47, 48, 49, 50, 51, 52, 53, 54, 55, 56, 57, 58, 10, 11, 12, 13, 21, 22, 23, 24, 115, 116, 117, 118, 119, 120, 121, 122, 123, 124, 125, 126, 127, 128, 129, 130, 131] (by decide +kernel) (by decide +kernel)
set_option maxRecDepth 20000 in
theorem gX6_nameBySize_X4_beginOf : GoodIn wsX6_nameBySize (wsV RX6 149 RX4 yX4_beginOf wsX4_beginOf) := goodIn_app (goodIn_of _ (by decide +kernel)) ggX6_nameBySize_X4_beginOf
set_option maxRecDepth 20000 in
theorem ggX6_nameBySize_X4_rowBegin : GoodIn wsX6_nameBySize wsX4_rowBegin := goodIn_r _ [104, 9, 71, 72, 73, 5, 74, 63, 64, 65, 66, 67, 68, 69, 70, 115, 116, 117, 118, 119, 120, 121, 122, 123, 124] (by decide +kernel) (by decide +kernel)
set_option maxRecDepth 20000 in
theorem gX6_nameBySize_X4_rowBegin : GoodIn wsX6_nameBySize (wsV RX6 187 RX4 yX4_rowBegin wsX4_rowBegin) := goodIn_app (goodIn_of _ (by decide +kernel)) ggX6_nameBySize_X4_rowBegin
set_option maxRecDepth 20000 in
theorem ggX6_nameBySize_X4_unitsOf : GoodIn wsX6_nameBySize wsX4_unitsOf := goodIn_r _ [13, 14, 15, 16, 17, 18, 19, 20, 21, 22, 23, 5, 24, 25, 26, 27, 28, 29, 30, 31, 32, 33, 34, 35, 36, 37, 38, 39, 40, 41, 42, 43, 44, 45, 46, 47, 48, 49, 50, 51, 52, 53, 54, 55, 56, 57, 58, 115, 116, 117, 118, 119, 120, 121, 122, 123, 124, 125, 126, 127, 128, 129, 130, 131] (by decide +kernel) (by decide +kernel)
set_option maxRecDepth 20000 in
theorem gX6_nameBySize_X4_unitsOf : GoodIn wsX6_nameBySize (wsV RX6 171 RX4 yX4_unitsOf wsX4_unitsOf) := goodIn_app (goodIn_of _ (by decide +kernel)) ggX6_nameBySize_X4_unitsOf
set_option maxRecDepth 20000 in
theorem ggX6_nameBySize_X4_middleBegin : GoodIn wsX6_nameBySize wsX4_middleBegin := goodIn_r _ [109, 7, 39, 40, 41, 42, 82, 83, 84, 5, 85, 9, 86, 87, 88, 89, 63, 59, 60, 61, 62, 64, 65, 66, 67, 68, 69, 70, 10, 11, 12, 13, 14, 15, 16, 17, 18, 19, 20, 21, 22, 23, 24, 25, 26, 27, 28, 29, 30, 31, 32, 33, 34, 35, 36, 37, 38, 43, 44, 45, 46, 47, 48, 49, 50, 51, 52, 53, 54, 55, 56, 57, 58, 115, 116, 117, 118, 119, 120, 121, 122, 123, 124, 125, 126, 127, 128, 129, 130, 131] (by decide +kernel) (by decide +kernel)
set_option maxRecDepth 20000 in
theorem gX6_nameBySize_X4_middleBegin : GoodIn wsX6_nameBySize (wsV RX6 190 RX4 yX4_middleBegin wsX4_middleBegin) := goodIn_app (goodIn_of _ (by decide +kernel)) ggX6_nameBySize_X4_middleBegin
