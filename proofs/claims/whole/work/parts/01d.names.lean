theorem dX6_isPlate_28 : decode cX6_isPlate 28 = .ok (.goto 4, 3) := by decide +kernel
theorem dX6_isPlate_31 : decode cX6_isPlate 31 = .ok (.iconst 0, 1) := by decide +kernel
theorem dX6_isPlate_32 : decode cX6_isPlate 32 = .ok (.ireturn, 1) := by decide +kernel
theorem dX7_init_0 : decode cX7_init 0 = .ok (.aload_n 0, 1) := by decide +kernel
theorem dX7_init_1 : decode cX7_init 1 = .ok (.invokespecial 1, 3) := by decide +kernel
theorem dX7_init_4 : decode cX7_init 4 = .ok (.aload_n 0, 1) := by decide +kernel
theorem dX7_init_5 : decode cX7_init 5 = .ok (.sipush 417, 3) := by decide +kernel
theorem dX7_init_8 : decode cX7_init 8 = .ok (.newarray .int, 2) := by decide +kernel
theorem dX7_init_10 : decode cX7_init 10 = .ok (.putfield 7, 3) := by decide +kernel
theorem dX7_init_13 : decode cX7_init 13 = .ok (.aload_n 0, 1) := by decide +kernel
theorem dX7_init_14 : decode cX7_init 14 = .ok (.sipush 2085, 3) := by decide +kernel
theorem dX7_init_17 : decode cX7_init 17 = .ok (.newarray .int, 2) := by decide +kernel
theorem dX7_init_19 : decode cX7_init 19 = .ok (.putfield 13, 3) := by decide +kernel
theorem dX7_init_22 : decode cX7_init 22 = .ok (.aload_n 0, 1) := by decide +kernel
theorem dX7_init_23 : decode cX7_init 23 = .ok (.sipush 417, 3) := by decide +kernel
theorem dX7_init_26 : decode cX7_init 26 = .ok (.newarray .int, 2) := by decide +kernel
theorem dX7_init_28 : decode cX7_init 28 = .ok (.putfield 16, 3) := by decide +kernel
theorem dX7_init_31 : decode cX7_init 31 = .ok (.aload_n 0, 1) := by decide +kernel
theorem dX7_init_32 : decode cX7_init 32 = .ok (.bipush 60, 2) := by decide +kernel
theorem dX7_init_34 : decode cX7_init 34 = .ok (.newarray .char, 2) := by decide +kernel
theorem dX7_init_36 : decode cX7_init 36 = .ok (.putfield 19, 3) := by decide +kernel
theorem dX7_init_39 : decode cX7_init 39 = .ok (.aload_n 0, 1) := by decide +kernel
theorem dX7_init_40 : decode cX7_init 40 = .ok (.getfield 7, 3) := by decide +kernel
theorem dX7_init_43 : decode cX7_init 43 = .ok (.iconst 0, 1) := by decide +kernel
theorem dX7_init_44 : decode cX7_init 44 = .ok (.sipush 2000, 3) := by decide +kernel
theorem dX7_init_47 : decode cX7_init 47 = .ok (.iastore, 1) := by decide +kernel
theorem dX7_init_48 : decode cX7_init 48 = .ok (.aload_n 0, 1) := by decide +kernel
theorem dX7_init_49 : decode cX7_init 49 = .ok (.getfield 7, 3) := by decide +kernel
theorem dX7_init_52 : decode cX7_init 52 = .ok (.iconst 1, 1) := by decide +kernel
theorem dX7_init_53 : decode cX7_init 53 = .ok (.sipush 1000, 3) := by decide +kernel
theorem dX7_init_56 : decode cX7_init 56 = .ok (.iastore, 1) := by decide +kernel
theorem dX7_init_57 : decode cX7_init 57 = .ok (.aload_n 0, 1) := by decide +kernel
theorem dX7_init_58 : decode cX7_init 58 = .ok (.getfield 7, 3) := by decide +kernel
theorem dX7_init_61 : decode cX7_init 61 = .ok (.iconst 2, 1) := by decide +kernel
theorem dX7_init_62 : decode cX7_init 62 = .ok (.bipush 20, 2) := by decide +kernel
theorem dX7_init_64 : decode cX7_init 64 = .ok (.iastore, 1) := by decide +kernel
theorem dX7_init_65 : decode cX7_init 65 = .ok (.aload_n 0, 1) := by decide +kernel
theorem dX7_init_66 : decode cX7_init 66 = .ok (.getfield 7, 3) := by decide +kernel
theorem dX7_init_69 : decode cX7_init 69 = .ok (.iconst 3, 1) := by decide +kernel
theorem dX7_init_70 : decode cX7_init 70 = .ok (.iconst 1, 1) := by decide +kernel
theorem dX7_init_71 : decode cX7_init 71 = .ok (.iastore, 1) := by decide +kernel
theorem dX7_init_72 : decode cX7_init 72 = .ok (.return_, 1) := by decide +kernel
theorem dX7_in_0 : decode cX7_in 0 = .ok (.iload_n 0, 1) := by decide +kernel
theorem dX7_in_1 : decode cX7_in 1 = .ok (.iload_n 1, 1) := by decide +kernel
theorem dX7_in_2 : decode cX7_in 2 = .ok (.if_icmp .lt 12, 3) := by decide +kernel
theorem dX7_in_5 : decode cX7_in 5 = .ok (.iload_n 0, 1) := by decide +kernel
theorem dX7_in_6 : decode cX7_in 6 = .ok (.iload_n 2, 1) := by decide +kernel
theorem dX7_in_7 : decode cX7_in 7 = .ok (.if_icmp .gt 7, 3) := by decide +kernel
theorem dX7_in_10 : decode cX7_in 10 = .ok (.iconst 1, 1) := by decide +kernel
theorem dX7_in_11 : decode cX7_in 11 = .ok (.goto 4, 3) := by decide +kernel
theorem dX7_in_14 : decode cX7_in 14 = .ok (.iconst 0, 1) := by decide +kernel
theorem dX7_in_15 : decode cX7_in 15 = .ok (.ireturn, 1) := by decide +kernel
theorem dX7_record_0 : decode cX7_record 0 = .ok (.aload_n 0, 1) := by decide +kernel
theorem dX7_record_1 : decode cX7_record 1 = .ok (.getfield 23, 3) := by decide +kernel
theorem dX7_record_4 : decode cX7_record 4 = .ok (.iconst 5, 1) := by decide +kernel
theorem dX7_record_5 : decode cX7_record 5 = .ok (.if_icmp .ne 44, 3) := by decide +kernel
theorem dX7_record_8 : decode cX7_record 8 = .ok (.iconst 0, 1) := by decide +kernel
theorem dX7_record_9 : decode cX7_record 9 = .ok (.istore_n 1, 1) := by decide +kernel
theorem dX7_record_10 : decode cX7_record 10 = .ok (.iload_n 1, 1) := by decide +kernel
theorem dX7_record_11 : decode cX7_record 11 = .ok (.sipush 1668, 3) := by decide +kernel
theorem dX7_record_14 : decode cX7_record 14 = .ok (.if_icmp .ge 25, 3) := by decide +kernel
theorem dX7_record_17 : decode cX7_record 17 = .ok (.aload_n 0, 1) := by decide +kernel
theorem dX7_record_18 : decode cX7_record 18 = .ok (.getfield 13, 3) := by decide +kernel
theorem dX7_record_21 : decode cX7_record 21 = .ok (.iload_n 1, 1) := by decide +kernel
theorem dX7_record_22 : decode cX7_record 22 = .ok (.aload_n 0, 1) := by decide +kernel
theorem dX7_record_23 : decode cX7_record 23 = .ok (.getfield 13, 3) := by decide +kernel
theorem dX7_record_26 : decode cX7_record 26 = .ok (.iload_n 1, 1) := by decide +kernel
theorem dX7_record_27 : decode cX7_record 27 = .ok (.sipush 417, 3) := by decide +kernel
theorem dX7_record_30 : decode cX7_record 30 = .ok (.iadd, 1) := by decide +kernel
theorem dX7_record_31 : decode cX7_record 31 = .ok (.iaload, 1) := by decide +kernel
theorem dX7_record_32 : decode cX7_record 32 = .ok (.iastore, 1) := by decide +kernel
theorem dX7_record_33 : decode cX7_record 33 = .ok (.iinc 1 1, 3) := by decide +kernel
theorem dX7_record_36 : decode cX7_record 36 = .ok (.goto (-26), 3) := by decide +kernel
theorem dX7_record_39 : decode cX7_record 39 = .ok (.aload_n 0, 1) := by decide +kernel
theorem dX7_record_40 : decode cX7_record 40 = .ok (.dup, 1) := by decide +kernel
theorem dX7_record_41 : decode cX7_record 41 = .ok (.getfield 23, 3) := by decide +kernel
theorem dX7_record_44 : decode cX7_record 44 = .ok (.iconst 1, 1) := by decide +kernel
theorem dX7_record_45 : decode cX7_record 45 = .ok (.isub, 1) := by decide +kernel
theorem dX7_record_46 : decode cX7_record 46 = .ok (.putfield 23, 3) := by decide +kernel
theorem dX7_record_49 : decode cX7_record 49 = .ok (.iconst 0, 1) := by decide +kernel
theorem dX7_record_50 : decode cX7_record 50 = .ok (.istore_n 1, 1) := by decide +kernel
theorem dX7_record_51 : decode cX7_record 51 = .ok (.iload_n 1, 1) := by decide +kernel
theorem dX7_record_52 : decode cX7_record 52 = .ok (.sipush 417, 3) := by decide +kernel
theorem dX7_record_55 : decode cX7_record 55 = .ok (.if_icmp .ge 30, 3) := by decide +kernel
theorem dX7_record_58 : decode cX7_record 58 = .ok (.aload_n 0, 1) := by decide +kernel
theorem dX7_record_59 : decode cX7_record 59 = .ok (.getfield 13, 3) := by decide +kernel
theorem dX7_record_62 : decode cX7_record 62 = .ok (.sipush 417, 3) := by decide +kernel
theorem dX7_record_65 : decode cX7_record 65 = .ok (.aload_n 0, 1) := by decide +kernel
theorem dX7_record_66 : decode cX7_record 66 = .ok (.getfield 23, 3) := by decide +kernel
theorem dX7_record_69 : decode cX7_record 69 = .ok (.imul, 1) := by decide +kernel
theorem dX7_record_70 : decode cX7_record 70 = .ok (.iload_n 1, 1) := by decide +kernel
theorem dX7_record_71 : decode cX7_record 71 = .ok (.iadd, 1) := by decide +kernel
theorem dX7_record_72 : decode cX7_record 72 = .ok (.aload_n 0, 1) := by decide +kernel
theorem dX7_record_73 : decode cX7_record 73 = .ok (.getfield 7, 3) := by decide +kernel
theorem dX7_record_76 : decode cX7_record 76 = .ok (.iload_n 1, 1) := by decide +kernel
theorem dX7_record_77 : decode cX7_record 77 = .ok (.iaload, 1) := by decide +kernel
theorem dX7_record_78 : decode cX7_record 78 = .ok (.iastore, 1) := by decide +kernel
theorem dX7_record_79 : decode cX7_record 79 = .ok (.iinc 1 1, 3) := by decide +kernel
theorem dX7_record_82 : decode cX7_record 82 = .ok (.goto (-31), 3) := by decide +kernel
theorem dX7_record_85 : decode cX7_record 85 = .ok (.aload_n 0, 1) := by decide +kernel
theorem dX7_record_86 : decode cX7_record 86 = .ok (.dup, 1) := by decide +kernel
theorem dX7_record_87 : decode cX7_record 87 = .ok (.getfield 23, 3) := by decide +kernel
theorem dX7_record_90 : decode cX7_record 90 = .ok (.iconst 1, 1) := by decide +kernel
theorem dX7_record_91 : decode cX7_record 91 = .ok (.iadd, 1) := by decide +kernel
theorem dX7_record_92 : decode cX7_record 92 = .ok (.putfield 23, 3) := by decide +kernel
theorem dX7_record_95 : decode cX7_record 95 = .ok (.return_, 1) := by decide +kernel
set_option maxRecDepth 20000 in
theorem ggX7_isLetter_X7_in : GoodIn wsX7_isLetter wsX7_in := goodIn_r _ [4] (by decide +kernel) (by decide +kernel)
set_option maxRecDepth 20000 in
theorem gX7_isLetter_X7_in : GoodIn wsX7_isLetter (va_wsS RX7 27 yX7_in wsX7_in) := goodIn_app (goodIn_of _ (by decide +kernel)) ggX7_isLetter_X7_in
theorem dX7_isLetter_0 : decode cX7_isLetter 0 = .ok (.iload_n 0, 1) := by decide +kernel
theorem dX7_isLetter_1 : decode cX7_isLetter 1 = .ok (.bipush 65, 2) := by decide +kernel
theorem dX7_isLetter_3 : decode cX7_isLetter 3 = .ok (.bipush 90, 2) := by decide +kernel
theorem dX7_isLetter_5 : decode cX7_isLetter 5 = .ok (.invokestatic 27, 3) := by decide +kernel
theorem dX7_isLetter_8 : decode cX7_isLetter 8 = .ok (.ireturn, 1) := by decide +kernel
theorem dX7_isPoint_0 : decode cX7_isPoint 0 = .ok (.iload_n 0, 1) := by decide +kernel
theorem dX7_isPoint_1 : decode cX7_isPoint 1 = .ok (.bipush 46, 2) := by decide +kernel
theorem dX7_isPoint_3 : decode cX7_isPoint 3 = .ok (.if_icmp .eq 9, 3) := by decide +kernel
theorem dX7_isPoint_6 : decode cX7_isPoint 6 = .ok (.iload_n 0, 1) := by decide +kernel
theorem dX7_isPoint_7 : decode cX7_isPoint 7 = .ok (.bipush 45, 2) := by decide +kernel
theorem dX7_isPoint_9 : decode cX7_isPoint 9 = .ok (.if_icmp .ne 7, 3) := by decide +kernel
theorem dX7_isPoint_12 : decode cX7_isPoint 12 = .ok (.iconst 1, 1) := by decide +kernel
theorem dX7_isPoint_13 : decode cX7_isPoint 13 = .ok (.goto 4, 3) := by decide +kernel
theorem dX7_isPoint_16 : decode cX7_isPoint 16 = .ok (.iconst 0, 1) := by decide +kernel
theorem dX7_isPoint_17 : decode cX7_isPoint 17 = .ok (.ireturn, 1) := by decide +kernel
set_option maxRecDepth 20000 in
theorem ggX7_wide_X7_isLetter : GoodIn wsX7_wide wsX7_isLetter := goodIn_r _ [4, 5, 6, 3, 7] (by decide +kernel) (by decide +kernel)
set_option maxRecDepth 20000 in
theorem gX7_wide_X7_isLetter : GoodIn wsX7_wide (va_wsS RX7 31 yX7_isLetter wsX7_isLetter) := goodIn_app (goodIn_of _ (by decide +kernel)) ggX7_wide_X7_isLetter
theorem dX7_wide_0 : decode cX7_wide 0 = .ok (.iload_n 0, 1) := by decide +kernel
theorem dX7_wide_1 : decode cX7_wide 1 = .ok (.invokestatic 31, 3) := by decide +kernel
theorem dX7_wide_4 : decode cX7_wide 4 = .ok (.ifCond .eq 17, 3) := by decide +kernel
theorem dX7_wide_7 : decode cX7_wide 7 = .ok (.iconst 3, 1) := by decide +kernel
theorem dX7_wide_8 : decode cX7_wide 8 = .ok (.iload_n 0, 1) := by decide +kernel
theorem dX7_wide_9 : decode cX7_wide 9 = .ok (.bipush 65, 2) := by decide +kernel
theorem dX7_wide_11 : decode cX7_wide 11 = .ok (.isub, 1) := by decide +kernel
theorem dX7_wide_12 : decode cX7_wide 12 = .ok (.iconst 5, 1) := by decide +kernel
theorem dX7_wide_13 : decode cX7_wide 13 = .ok (.imul, 1) := by decide +kernel
theorem dX7_wide_14 : decode cX7_wide 14 = .ok (.bipush 7, 2) := by decide +kernel
theorem dX7_wide_16 : decode cX7_wide 16 = .ok (.irem, 1) := by decide +kernel
theorem dX7_wide_17 : decode cX7_wide 17 = .ok (.iadd, 1) := by decide +kernel
theorem dX7_wide_18 : decode cX7_wide 18 = .ok (.goto 14, 3) := by decide +kernel
theorem dX7_wide_21 : decode cX7_wide 21 = .ok (.iload_n 0, 1) := by decide +kernel
theorem dX7_wide_22 : decode cX7_wide 22 = .ok (.bipush 46, 2) := by decide +kernel
theorem dX7_wide_24 : decode cX7_wide 24 = .ok (.if_icmp .ne 7, 3) := by decide +kernel
theorem dX7_wide_27 : decode cX7_wide 27 = .ok (.iconst 2, 1) := by decide +kernel
theorem dX7_wide_28 : decode cX7_wide 28 = .ok (.goto 4, 3) := by decide +kernel
theorem dX7_wide_31 : decode cX7_wide 31 = .ok (.iconst 4, 1) := by decide +kernel
theorem dX7_wide_32 : decode cX7_wide 32 = .ok (.ireturn, 1) := by decide +kernel
set_option maxRecDepth 20000 in
theorem ggX7_open_X7_isLetter : GoodIn wsX7_open wsX7_isLetter := goodIn_r _ [4, 5, 6, 3, 7] (by decide +kernel) (by decide +kernel)
set_option maxRecDepth 20000 in
theorem gX7_open_X7_isLetter : GoodIn wsX7_open (va_wsS RX7 31 yX7_isLetter wsX7_isLetter) := goodIn_app (goodIn_of _ (by decide +kernel)) ggX7_open_X7_isLetter
theorem dX7_open_0 : decode cX7_open 0 = .ok (.iload_n 0, 1) := by decide +kernel
theorem dX7_open_1 : decode cX7_open 1 = .ok (.invokestatic 31, 3) := by decide +kernel
theorem dX7_open_4 : decode cX7_open 4 = .ok (.ifCond .eq 12, 3) := by decide +kernel
theorem dX7_open_7 : decode cX7_open 7 = .ok (.iload_n 0, 1) := by decide +kernel
theorem dX7_open_8 : decode cX7_open 8 = .ok (.bipush 65, 2) := by decide +kernel
theorem dX7_open_10 : decode cX7_open 10 = .ok (.isub, 1) := by decide +kernel
theorem dX7_open_11 : decode cX7_open 11 = .ok (.iconst 3, 1) := by decide +kernel
theorem dX7_open_12 : decode cX7_open 12 = .ok (.irem, 1) := by decide +kernel
theorem dX7_open_13 : decode cX7_open 13 = .ok (.goto 4, 3) := by decide +kernel
theorem dX7_open_16 : decode cX7_open 16 = .ok (.iconst 2, 1) := by decide +kernel
theorem dX7_open_17 : decode cX7_open 17 = .ok (.ireturn, 1) := by decide +kernel
set_option maxRecDepth 20000 in
theorem ggX7_ink_X7_isLetter : GoodIn wsX7_ink wsX7_isLetter := goodIn_r _ [4, 5, 6, 3, 7] (by decide +kernel) (by decide +kernel)
set_option maxRecDepth 20000 in
theorem gX7_ink_X7_isLetter : GoodIn wsX7_ink (va_wsS RX7 31 yX7_isLetter wsX7_isLetter) := goodIn_app (goodIn_of _ (by decide +kernel)) ggX7_ink_X7_isLetter
theorem dX7_ink_0 : decode cX7_ink 0 = .ok (.iload_n 0, 1) := by decide +kernel
theorem dX7_ink_1 : decode cX7_ink 1 = .ok (.invokestatic 31, 3) := by decide +kernel
theorem dX7_ink_4 : decode cX7_ink 4 = .ok (.ifCond .eq 16, 3) := by decide +kernel
theorem dX7_ink_7 : decode cX7_ink 7 = .ok (.iconst 1, 1) := by decide +kernel
theorem dX7_ink_8 : decode cX7_ink 8 = .ok (.iload_n 0, 1) := by decide +kernel
theorem dX7_ink_9 : decode cX7_ink 9 = .ok (.bipush 65, 2) := by decide +kernel
theorem dX7_ink_11 : decode cX7_ink 11 = .ok (.isub, 1) := by decide +kernel
theorem dX7_ink_12 : decode cX7_ink 12 = .ok (.iconst 3, 1) := by decide +kernel
theorem dX7_ink_13 : decode cX7_ink 13 = .ok (.imul, 1) := by decide +kernel
theorem dX7_ink_14 : decode cX7_ink 14 = .ok (.iconst 5, 1) := by decide +kernel
theorem dX7_ink_15 : decode cX7_ink 15 = .ok (.irem, 1) := by decide +kernel
theorem dX7_ink_16 : decode cX7_ink 16 = .ok (.iadd, 1) := by decide +kernel
theorem dX7_ink_17 : decode cX7_ink 17 = .ok (.goto 14, 3) := by decide +kernel
theorem dX7_ink_20 : decode cX7_ink 20 = .ok (.iload_n 0, 1) := by decide +kernel
theorem dX7_ink_21 : decode cX7_ink 21 = .ok (.bipush 46, 2) := by decide +kernel
theorem dX7_ink_23 : decode cX7_ink 23 = .ok (.if_icmp .ne 7, 3) := by decide +kernel
theorem dX7_ink_26 : decode cX7_ink 26 = .ok (.iconst 1, 1) := by decide +kernel
theorem dX7_ink_27 : decode cX7_ink 27 = .ok (.goto 4, 3) := by decide +kernel
theorem dX7_ink_30 : decode cX7_ink 30 = .ok (.iconst 2, 1) := by decide +kernel
theorem dX7_ink_31 : decode cX7_ink 31 = .ok (.ireturn, 1) := by decide +kernel
theorem dX7_placeOf_0 : decode cX7_placeOf 0 = .ok (.iconst 0, 1) := by decide +kernel
theorem dX7_placeOf_1 : decode cX7_placeOf 1 = .ok (.istore_n 3, 1) := by decide +kernel
theorem dX7_placeOf_2 : decode cX7_placeOf 2 = .ok (.iload_n 3, 1) := by decide +kernel
theorem dX7_placeOf_3 : decode cX7_placeOf 3 = .ok (.aload_n 0, 1) := by decide +kernel
theorem dX7_placeOf_4 : decode cX7_placeOf 4 = .ok (.getfield 7, 3) := by decide +kernel
theorem dX7_placeOf_7 : decode cX7_placeOf 7 = .ok (.bipush 8, 2) := by decide +kernel
theorem dX7_placeOf_9 : decode cX7_placeOf 9 = .ok (.iaload, 1) := by decide +kernel
theorem dX7_placeOf_10 : decode cX7_placeOf 10 = .ok (.if_icmp .ge 43, 3) := by decide +kernel
theorem dX7_placeOf_13 : decode cX7_placeOf 13 = .ok (.aload_n 0, 1) := by decide +kernel
theorem dX7_placeOf_14 : decode cX7_placeOf 14 = .ok (.getfield 7, 3) := by decide +kernel
theorem dX7_placeOf_17 : decode cX7_placeOf 17 = .ok (.bipush 9, 2) := by decide +kernel
theorem dX7_placeOf_19 : decode cX7_placeOf 19 = .ok (.iconst 3, 1) := by decide +kernel
theorem dX7_placeOf_20 : decode cX7_placeOf 20 = .ok (.iload_n 3, 1) := by decide +kernel
theorem dX7_placeOf_21 : decode cX7_placeOf 21 = .ok (.imul, 1) := by decide +kernel
theorem dX7_placeOf_22 : decode cX7_placeOf 22 = .ok (.iadd, 1) := by decide +kernel
theorem dX7_placeOf_23 : decode cX7_placeOf 23 = .ok (.iaload, 1) := by decide +kernel
theorem dX7_placeOf_24 : decode cX7_placeOf 24 = .ok (.iload_n 1, 1) := by decide +kernel
theorem dX7_placeOf_25 : decode cX7_placeOf 25 = .ok (.if_icmp .ne 22, 3) := by decide +kernel
theorem dX7_placeOf_28 : decode cX7_placeOf 28 = .ok (.aload_n 0, 1) := by decide +kernel
theorem dX7_placeOf_29 : decode cX7_placeOf 29 = .ok (.getfield 7, 3) := by decide +kernel
theorem dX7_placeOf_32 : decode cX7_placeOf 32 = .ok (.bipush 9, 2) := by decide +kernel
theorem dX7_placeOf_34 : decode cX7_placeOf 34 = .ok (.iconst 3, 1) := by decide +kernel
theorem dX7_placeOf_35 : decode cX7_placeOf 35 = .ok (.iload_n 3, 1) := by decide +kernel
theorem dX7_placeOf_36 : decode cX7_placeOf 36 = .ok (.imul, 1) := by decide +kernel
theorem dX7_placeOf_37 : decode cX7_placeOf 37 = .ok (.iadd, 1) := by decide +kernel
theorem dX7_placeOf_38 : decode cX7_placeOf 38 = .ok (.iconst 1, 1) := by decide +kernel
theorem dX7_placeOf_39 : decode cX7_placeOf 39 = .ok (.iadd, 1) := by decide +kernel
theorem dX7_placeOf_40 : decode cX7_placeOf 40 = .ok (.iaload, 1) := by decide +kernel
theorem dX7_placeOf_41 : decode cX7_placeOf 41 = .ok (.iload_n 2, 1) := by decide +kernel
theorem dX7_placeOf_42 : decode cX7_placeOf 42 = .ok (.if_icmp .ne 5, 3) := by decide +kernel
theorem dX7_placeOf_45 : decode cX7_placeOf 45 = .ok (.iload_n 3, 1) := by decide +kernel
theorem dX7_placeOf_46 : decode cX7_placeOf 46 = .ok (.ireturn, 1) := by decide +kernel
theorem dX7_placeOf_47 : decode cX7_placeOf 47 = .ok (.iinc 3 1, 3) := by decide +kernel
theorem dX7_placeOf_50 : decode cX7_placeOf 50 = .ok (.goto (-48), 3) := by decide +kernel
theorem dX7_placeOf_53 : decode cX7_placeOf 53 = .ok (.sipush (-1005), 3) := by decide +kernel
theorem dX7_placeOf_56 : decode cX7_placeOf 56 = .ok (.ireturn, 1) := by decide +kernel
set_option maxRecDepth 20000 in
theorem ggX7_adjusted_X7_placeOf : GoodIn wsX7_adjusted wsX7_placeOf := goodIn_r _ [6, 1, 7, 8, 9, 10, 11, 12, 13] (by decide +kernel) (by decide +kernel)
set_option maxRecDepth 20000 in
theorem gX7_adjusted_X7_placeOf : GoodIn wsX7_adjusted (wsV RX7 35 RX7 yX7_placeOf wsX7_placeOf) := goodIn_app (goodIn_of _ (by decide +kernel)) ggX7_adjusted_X7_placeOf
theorem dX7_adjusted_0 : decode cX7_adjusted 0 = .ok (.aload_n 0, 1) := by decide +kernel
theorem dX7_adjusted_1 : decode cX7_adjusted 1 = .ok (.iload_n 1, 1) := by decide +kernel
theorem dX7_adjusted_2 : decode cX7_adjusted 2 = .ok (.iload_n 2, 1) := by decide +kernel
theorem dX7_adjusted_3 : decode cX7_adjusted 3 = .ok (.invokevirtual 35, 3) := by decide +kernel
theorem dX7_adjusted_6 : decode cX7_adjusted 6 = .ok (.istore_n 3, 1) := by decide +kernel
theorem dX7_adjusted_7 : decode cX7_adjusted 7 = .ok (.iload_n 3, 1) := by decide +kernel
theorem dX7_adjusted_8 : decode cX7_adjusted 8 = .ok (.sipush (-1005), 3) := by decide +kernel
theorem dX7_adjusted_11 : decode cX7_adjusted 11 = .ok (.if_icmp .ne 7, 3) := by decide +kernel
theorem dX7_adjusted_14 : decode cX7_adjusted 14 = .ok (.iconst 0, 1) := by decide +kernel
theorem dX7_adjusted_15 : decode cX7_adjusted 15 = .ok (.goto 16, 3) := by decide +kernel
theorem dX7_adjusted_18 : decode cX7_adjusted 18 = .ok (.aload_n 0, 1) := by decide +kernel
theorem dX7_adjusted_19 : decode cX7_adjusted 19 = .ok (.getfield 7, 3) := by decide +kernel
theorem dX7_adjusted_22 : decode cX7_adjusted 22 = .ok (.bipush 9, 2) := by decide +kernel
theorem dX7_adjusted_24 : decode cX7_adjusted 24 = .ok (.iconst 3, 1) := by decide +kernel
theorem dX7_adjusted_25 : decode cX7_adjusted 25 = .ok (.iload_n 3, 1) := by decide +kernel
theorem dX7_adjusted_26 : decode cX7_adjusted 26 = .ok (.imul, 1) := by decide +kernel
theorem dX7_adjusted_27 : decode cX7_adjusted 27 = .ok (.iadd, 1) := by decide +kernel
theorem dX7_adjusted_28 : decode cX7_adjusted 28 = .ok (.iconst 2, 1) := by decide +kernel
theorem dX7_adjusted_29 : decode cX7_adjusted 29 = .ok (.iadd, 1) := by decide +kernel
theorem dX7_adjusted_30 : decode cX7_adjusted 30 = .ok (.iaload, 1) := by decide +kernel
theorem dX7_adjusted_31 : decode cX7_adjusted 31 = .ok (.ireturn, 1) := by decide +kernel
set_option maxRecDepth 20000 in
theorem ggX7_space_X7_open : GoodIn wsX7_space wsX7_open := goodIn_r _ [4, 5, 6, 3, 7, 8, 9, 10] (by decide +kernel) (by decide +kernel)
set_option maxRecDepth 20000 in
theorem gX7_space_X7_open : GoodIn wsX7_space (va_wsS RX7 39 yX7_open wsX7_open) := goodIn_app (goodIn_of _ (by decide +kernel)) ggX7_space_X7_open
set_option maxRecDepth 20000 in
theorem ggX7_space_X7_adjusted : GoodIn wsX7_space wsX7_adjusted := goodIn_r _ [14, 15, 16, 17, 18, 3, 19, 20, 21, 22, 23, 24, 25, 26] (by decide +kernel) (by decide +kernel)
set_option maxRecDepth 20000 in
theorem gX7_space_X7_adjusted : GoodIn wsX7_space (wsV RX7 43 RX7 yX7_adjusted wsX7_adjusted) := goodIn_app (goodIn_of _ (by decide +kernel)) ggX7_space_X7_adjusted
theorem dX7_space_0 : decode cX7_space 0 = .ok (.bipush 6, 2) := by decide +kernel
theorem dX7_space_2 : decode cX7_space 2 = .ok (.iload_n 1, 1) := by decide +kernel
theorem dX7_space_3 : decode cX7_space 3 = .ok (.invokestatic 39, 3) := by decide +kernel
theorem dX7_space_6 : decode cX7_space 6 = .ok (.isub, 1) := by decide +kernel
theorem dX7_space_7 : decode cX7_space 7 = .ok (.iload_n 2, 1) := by decide +kernel
theorem dX7_space_8 : decode cX7_space 8 = .ok (.invokestatic 39, 3) := by decide +kernel
theorem dX7_space_11 : decode cX7_space 11 = .ok (.isub, 1) := by decide +kernel
theorem dX7_space_12 : decode cX7_space 12 = .ok (.aload_n 0, 1) := by decide +kernel
theorem dX7_space_13 : decode cX7_space 13 = .ok (.iload_n 1, 1) := by decide +kernel
theorem dX7_space_14 : decode cX7_space 14 = .ok (.iload_n 2, 1) := by decide +kernel
theorem dX7_space_15 : decode cX7_space 15 = .ok (.invokevirtual 43, 3) := by decide +kernel
theorem dX7_space_18 : decode cX7_space 18 = .ok (.iadd, 1) := by decide +kernel
theorem dX7_space_19 : decode cX7_space 19 = .ok (.istore_n 3, 1) := by decide +kernel
theorem dX7_space_20 : decode cX7_space 20 = .ok (.iload_n 3, 1) := by decide +kernel
theorem dX7_space_21 : decode cX7_space 21 = .ok (.iconst 1, 1) := by decide +kernel
theorem dX7_space_22 : decode cX7_space 22 = .ok (.if_icmp .ge 7, 3) := by decide +kernel
theorem dX7_space_25 : decode cX7_space 25 = .ok (.iconst 1, 1) := by decide +kernel
theorem dX7_space_26 : decode cX7_space 26 = .ok (.goto 4, 3) := by decide +kernel
theorem dX7_space_29 : decode cX7_space 29 = .ok (.iload_n 3, 1) := by decide +kernel
theorem dX7_space_30 : decode cX7_space 30 = .ok (.ireturn, 1) := by decide +kernel
set_option maxRecDepth 20000 in
theorem ggX7_noSeat_X7_in : GoodIn wsX7_noSeat wsX7_in := goodIn_r _ [5] (by decide +kernel) (by decide +kernel)
set_option maxRecDepth 20000 in
theorem gX7_noSeat_X7_in : GoodIn wsX7_noSeat (va_wsS RX7 27 yX7_in wsX7_in) := goodIn_app (goodIn_of _ (by decide +kernel)) ggX7_noSeat_X7_in
theorem dX7_noSeat_0 : decode cX7_noSeat 0 = .ok (.iload_n 1, 1) := by decide +kernel
theorem dX7_noSeat_1 : decode cX7_noSeat 1 = .ok (.iconst 0, 1) := by decide +kernel
theorem dX7_noSeat_2 : decode cX7_noSeat 2 = .ok (.aload_n 0, 1) := by decide +kernel
theorem dX7_noSeat_3 : decode cX7_noSeat 3 = .ok (.getfield 7, 3) := by decide +kernel
theorem dX7_noSeat_6 : decode cX7_noSeat 6 = .ok (.iconst 4, 1) := by decide +kernel
theorem dX7_noSeat_7 : decode cX7_noSeat 7 = .ok (.iaload, 1) := by decide +kernel
theorem dX7_noSeat_8 : decode cX7_noSeat 8 = .ok (.iconst 1, 1) := by decide +kernel
theorem dX7_noSeat_9 : decode cX7_noSeat 9 = .ok (.isub, 1) := by decide +kernel
theorem dX7_noSeat_10 : decode cX7_noSeat 10 = .ok (.invokestatic 27, 3) := by decide +kernel
theorem dX7_noSeat_13 : decode cX7_noSeat 13 = .ok (.ifCond .ne 7, 3) := by decide +kernel
theorem dX7_noSeat_16 : decode cX7_noSeat 16 = .ok (.iconst 1, 1) := by decide +kernel
theorem dX7_noSeat_17 : decode cX7_noSeat 17 = .ok (.goto 4, 3) := by decide +kernel
theorem dX7_noSeat_20 : decode cX7_noSeat 20 = .ok (.iconst 0, 1) := by decide +kernel
theorem dX7_noSeat_21 : decode cX7_noSeat 21 = .ok (.ireturn, 1) := by decide +kernel
theorem dX7_of_0 : decode cX7_of 0 = .ok (.aload_n 0, 1) := by decide +kernel
theorem dX7_of_1 : decode cX7_of 1 = .ok (.getfield 7, 3) := by decide +kernel
theorem dX7_of_4 : decode cX7_of 4 = .ok (.bipush 57, 2) := by decide +kernel
theorem dX7_of_6 : decode cX7_of 6 = .ok (.bipush 18, 2) := by decide +kernel
theorem dX7_of_8 : decode cX7_of 8 = .ok (.iload_n 1, 1) := by decide +kernel
theorem dX7_of_9 : decode cX7_of 9 = .ok (.imul, 1) := by decide +kernel
theorem dX7_of_10 : decode cX7_of 10 = .ok (.iadd, 1) := by decide +kernel
theorem dX7_of_11 : decode cX7_of 11 = .ok (.iload_n 2, 1) := by decide +kernel
theorem dX7_of_12 : decode cX7_of 12 = .ok (.iadd, 1) := by decide +kernel
theorem dX7_of_13 : decode cX7_of 13 = .ok (.iaload, 1) := by decide +kernel
theorem dX7_of_14 : decode cX7_of 14 = .ok (.ireturn, 1) := by decide +kernel
set_option maxRecDepth 20000 in
theorem ggX7_signOf_X7_of : GoodIn wsX7_signOf wsX7_of := goodIn_r _ [5, 6, 7, 8, 9, 10, 11, 12, 13] (by decide +kernel) (by decide +kernel)
set_option maxRecDepth 20000 in
theorem gX7_signOf_X7_of : GoodIn wsX7_signOf (wsV RX7 46 RX7 yX7_of wsX7_of) := goodIn_app (goodIn_of _ (by decide +kernel)) ggX7_signOf_X7_of
theorem dX7_signOf_0 : decode cX7_signOf 0 = .ok (.aload_n 0, 1) := by decide +kernel
theorem dX7_signOf_1 : decode cX7_signOf 1 = .ok (.iload_n 1, 1) := by decide +kernel
theorem dX7_signOf_2 : decode cX7_signOf 2 = .ok (.iconst 2, 1) := by decide +kernel
theorem dX7_signOf_3 : decode cX7_signOf 3 = .ok (.iload_n 2, 1) := by decide +kernel
theorem dX7_signOf_4 : decode cX7_signOf 4 = .ok (.iadd, 1) := by decide +kernel
theorem dX7_signOf_5 : decode cX7_signOf 5 = .ok (.invokevirtual 46, 3) := by decide +kernel
theorem dX7_signOf_8 : decode cX7_signOf 8 = .ok (.ireturn, 1) := by decide +kernel
set_option maxRecDepth 20000 in
theorem ggX7_isEngraved_X7_of : GoodIn wsX7_isEngraved wsX7_of := goodIn_r _ [5, 6, 7, 8, 9, 10, 11, 12, 13] (by decide +kernel) (by decide +kernel)
set_option maxRecDepth 20000 in
theorem gX7_isEngraved_X7_of : GoodIn wsX7_isEngraved (wsV RX7 46 RX7 yX7_of wsX7_of) := goodIn_app (goodIn_of _ (by decide +kernel)) ggX7_isEngraved_X7_of
theorem dX7_isEngraved_0 : decode cX7_isEngraved 0 = .ok (.aload_n 0, 1) := by decide +kernel
theorem dX7_isEngraved_1 : decode cX7_isEngraved 1 = .ok (.iload_n 1, 1) := by decide +kernel
theorem dX7_isEngraved_2 : decode cX7_isEngraved 2 = .ok (.iconst 1, 1) := by decide +kernel
theorem dX7_isEngraved_3 : decode cX7_isEngraved 3 = .ok (.invokevirtual 46, 3) := by decide +kernel
theorem dX7_isEngraved_6 : decode cX7_isEngraved 6 = .ok (.iconst 1, 1) := by decide +kernel
theorem dX7_isEngraved_7 : decode cX7_isEngraved 7 = .ok (.if_icmp .ne 7, 3) := by decide +kernel
theorem dX7_isEngraved_10 : decode cX7_isEngraved 10 = .ok (.iconst 1, 1) := by decide +kernel
theorem dX7_isEngraved_11 : decode cX7_isEngraved 11 = .ok (.goto 4, 3) := by decide +kernel
theorem dX7_isEngraved_14 : decode cX7_isEngraved 14 = .ok (.iconst 0, 1) := by decide +kernel
theorem dX7_isEngraved_15 : decode cX7_isEngraved 15 = .ok (.ireturn, 1) := by decide +kernel
set_option maxRecDepth 20000 in
theorem ggX7_engraved_X7_of : GoodIn wsX7_engraved wsX7_of := goodIn_r _ [6, 1, 7, 8, 9, 10, 11, 12, 13] (by decide +kernel) (by decide +kernel)
set_option maxRecDepth 20000 in
theorem gX7_engraved_X7_of : GoodIn wsX7_engraved (wsV RX7 46 RX7 yX7_of wsX7_of) := goodIn_app (goodIn_of _ (by decide +kernel)) ggX7_engraved_X7_of
theorem dX7_engraved_0 : decode cX7_engraved 0 = .ok (.iconst 0, 1) := by decide +kernel
theorem dX7_engraved_1 : decode cX7_engraved 1 = .ok (.istore_n 1, 1) := by decide +kernel
theorem dX7_engraved_2 : decode cX7_engraved 2 = .ok (.iconst 0, 1) := by decide +kernel
theorem dX7_engraved_3 : decode cX7_engraved 3 = .ok (.istore_n 2, 1) := by decide +kernel
theorem dX7_engraved_4 : decode cX7_engraved 4 = .ok (.iload_n 2, 1) := by decide +kernel
theorem dX7_engraved_5 : decode cX7_engraved 5 = .ok (.aload_n 0, 1) := by decide +kernel
theorem dX7_engraved_6 : decode cX7_engraved 6 = .ok (.getfield 7, 3) := by decide +kernel
theorem dX7_engraved_9 : decode cX7_engraved 9 = .ok (.iconst 4, 1) := by decide +kernel
theorem dX7_engraved_10 : decode cX7_engraved 10 = .ok (.iaload, 1) := by decide +kernel
theorem dX7_engraved_11 : decode cX7_engraved 11 = .ok (.if_icmp .ge 18, 3) := by decide +kernel
theorem dX7_engraved_14 : decode cX7_engraved 14 = .ok (.iload_n 1, 1) := by decide +kernel
theorem dX7_engraved_15 : decode cX7_engraved 15 = .ok (.aload_n 0, 1) := by decide +kernel
theorem dX7_engraved_16 : decode cX7_engraved 16 = .ok (.iload_n 2, 1) := by decide +kernel
theorem dX7_engraved_17 : decode cX7_engraved 17 = .ok (.iconst 1, 1) := by decide +kernel
theorem dX7_engraved_18 : decode cX7_engraved 18 = .ok (.invokevirtual 46, 3) := by decide +kernel
theorem dX7_engraved_21 : decode cX7_engraved 21 = .ok (.iadd, 1) := by decide +kernel
theorem dX7_engraved_22 : decode cX7_engraved 22 = .ok (.istore_n 1, 1) := by decide +kernel
theorem dX7_engraved_23 : decode cX7_engraved 23 = .ok (.iinc 2 1, 3) := by decide +kernel
theorem dX7_engraved_26 : decode cX7_engraved 26 = .ok (.goto (-22), 3) := by decide +kernel
theorem dX7_engraved_29 : decode cX7_engraved 29 = .ok (.iload_n 1, 1) := by decide +kernel
theorem dX7_engraved_30 : decode cX7_engraved 30 = .ok (.ireturn, 1) := by decide +kernel
set_option maxRecDepth 20000 in
theorem ggX7_unitsTo_X7_signOf : GoodIn wsX7_unitsTo wsX7_signOf := goodIn_r _ [5, 6, 7, 8, 4, 9, 10, 35, 36, 37, 38, 39, 40, 41] (by decide +kernel) (by decide +kernel)
set_option maxRecDepth 20000 in
theorem gX7_unitsTo_X7_signOf : GoodIn wsX7_unitsTo (wsV RX7 49 RX7 yX7_signOf wsX7_signOf) := goodIn_app (goodIn_of _ (by decide +kernel)) ggX7_unitsTo_X7_signOf
set_option maxRecDepth 20000 in
theorem ggX7_unitsTo_X7_wide : GoodIn wsX7_unitsTo wsX7_wide := goodIn_r _ [13, 14, 15, 4, 16, 17, 18, 19] (by decide +kernel) (by decide +kernel)
set_option maxRecDepth 20000 in
theorem gX7_unitsTo_X7_wide : GoodIn wsX7_unitsTo (va_wsS RX7 52 yX7_wide wsX7_wide) := goodIn_app (goodIn_of _ (by decide +kernel)) ggX7_unitsTo_X7_wide
set_option maxRecDepth 20000 in
theorem ggX7_unitsTo_X7_space : GoodIn wsX7_unitsTo wsX7_space := goodIn_r _ [23, 24, 25, 4, 26, 14, 15, 16, 17, 18, 19, 27, 28, 29, 30, 10, 31, 32, 33, 34, 35, 36, 37, 38, 39, 40, 41] (by decide +kernel) (by decide +kernel)
set_option maxRecDepth 20000 in
theorem gX7_unitsTo_X7_space : GoodIn wsX7_unitsTo (wsV RX7 55 RX7 yX7_space wsX7_space) := goodIn_app (goodIn_of _ (by decide +kernel)) ggX7_unitsTo_X7_space
theorem dX7_unitsTo_0 : decode cX7_unitsTo 0 = .ok (.iconst 0, 1) := by decide +kernel
theorem dX7_unitsTo_1 : decode cX7_unitsTo 1 = .ok (.istore_n 3, 1) := by decide +kernel
theorem dX7_unitsTo_2 : decode cX7_unitsTo 2 = .ok (.iconst 0, 1) := by decide +kernel
theorem dX7_unitsTo_3 : decode cX7_unitsTo 3 = .ok (.istore 4, 2) := by decide +kernel
theorem dX7_unitsTo_5 : decode cX7_unitsTo 5 = .ok (.iload 4, 2) := by decide +kernel
theorem dX7_unitsTo_7 : decode cX7_unitsTo 7 = .ok (.iload_n 2, 1) := by decide +kernel
theorem dX7_unitsTo_8 : decode cX7_unitsTo 8 = .ok (.if_icmp .ge 43, 3) := by decide +kernel
theorem dX7_unitsTo_11 : decode cX7_unitsTo 11 = .ok (.iload_n 3, 1) := by decide +kernel
theorem dX7_unitsTo_12 : decode cX7_unitsTo 12 = .ok (.aload_n 0, 1) := by decide +kernel
theorem dX7_unitsTo_13 : decode cX7_unitsTo 13 = .ok (.iload_n 1, 1) := by decide +kernel
theorem dX7_unitsTo_14 : decode cX7_unitsTo 14 = .ok (.iload 4, 2) := by decide +kernel
theorem dX7_unitsTo_16 : decode cX7_unitsTo 16 = .ok (.invokevirtual 49, 3) := by decide +kernel
theorem dX7_unitsTo_19 : decode cX7_unitsTo 19 = .ok (.invokestatic 52, 3) := by decide +kernel
theorem dX7_unitsTo_22 : decode cX7_unitsTo 22 = .ok (.aload_n 0, 1) := by decide +kernel
theorem dX7_unitsTo_23 : decode cX7_unitsTo 23 = .ok (.aload_n 0, 1) := by decide +kernel
theorem dX7_unitsTo_24 : decode cX7_unitsTo 24 = .ok (.iload_n 1, 1) := by decide +kernel
theorem dX7_unitsTo_25 : decode cX7_unitsTo 25 = .ok (.iload 4, 2) := by decide +kernel
theorem dX7_unitsTo_27 : decode cX7_unitsTo 27 = .ok (.invokevirtual 49, 3) := by decide +kernel
theorem dX7_unitsTo_30 : decode cX7_unitsTo 30 = .ok (.aload_n 0, 1) := by decide +kernel
theorem dX7_unitsTo_31 : decode cX7_unitsTo 31 = .ok (.iload_n 1, 1) := by decide +kernel
theorem dX7_unitsTo_32 : decode cX7_unitsTo 32 = .ok (.iload 4, 2) := by decide +kernel
theorem dX7_unitsTo_34 : decode cX7_unitsTo 34 = .ok (.iconst 1, 1) := by decide +kernel
theorem dX7_unitsTo_35 : decode cX7_unitsTo 35 = .ok (.iadd, 1) := by decide +kernel
theorem dX7_unitsTo_36 : decode cX7_unitsTo 36 = .ok (.invokevirtual 49, 3) := by decide +kernel
theorem dX7_unitsTo_39 : decode cX7_unitsTo 39 = .ok (.invokevirtual 55, 3) := by decide +kernel
theorem dX7_unitsTo_42 : decode cX7_unitsTo 42 = .ok (.iadd, 1) := by decide +kernel
theorem dX7_unitsTo_43 : decode cX7_unitsTo 43 = .ok (.iadd, 1) := by decide +kernel
theorem dX7_unitsTo_44 : decode cX7_unitsTo 44 = .ok (.istore_n 3, 1) := by decide +kernel
theorem dX7_unitsTo_45 : decode cX7_unitsTo 45 = .ok (.iinc 4 1, 3) := by decide +kernel
theorem dX7_unitsTo_48 : decode cX7_unitsTo 48 = .ok (.goto (-43), 3) := by decide +kernel
theorem dX7_unitsTo_51 : decode cX7_unitsTo 51 = .ok (.iload_n 3, 1) := by decide +kernel
theorem dX7_unitsTo_52 : decode cX7_unitsTo 52 = .ok (.ireturn, 1) := by decide +kernel
set_option maxRecDepth 20000 in
theorem ggX7_units_X7_of : GoodIn wsX7_units wsX7_of := goodIn_r _ [5, 6, 39, 40, 41, 42, 43, 44, 45] (by decide +kernel) (by decide +kernel)
set_option maxRecDepth 20000 in
theorem gX7_units_X7_of : GoodIn wsX7_units (wsV RX7 46 RX7 yX7_of wsX7_of) := goodIn_app (goodIn_of _ (by decide +kernel)) ggX7_units_X7_of
set_option maxRecDepth 20000 in
theorem ggX7_units_X7_unitsTo : GoodIn wsX7_units wsX7_unitsTo := goodIn_r _ [10, 11, 12, 13, 4, 14, 1, 2, 3, 5, 6, 15, 16, 17, 18, 19, 20, 21, 22, 23, 24, 25, 26, 27, 28, 29, 30, 31, 32, 33, 34, 35, 36, 37, 38, 39, 40, 41, 42, 43, 44, 45] (by decide +kernel) (by decide +kernel)
set_option maxRecDepth 20000 in
theorem gX7_units_X7_unitsTo : GoodIn wsX7_units (wsV RX7 58 RX7 yX7_unitsTo wsX7_unitsTo) := goodIn_app (goodIn_of _ (by decide +kernel)) ggX7_units_X7_unitsTo
set_option maxRecDepth 20000 in
theorem ggX7_units_X7_signOf : GoodIn wsX7_units wsX7_signOf := goodIn_r _ [14, 1, 2, 3, 4, 5, 6, 39, 40, 41, 42, 43, 44, 45] (by decide +kernel) (by decide +kernel)
set_option maxRecDepth 20000 in
theorem gX7_units_X7_signOf : GoodIn wsX7_units (wsV RX7 49 RX7 yX7_signOf wsX7_signOf) := goodIn_app (goodIn_of _ (by decide +kernel)) ggX7_units_X7_signOf
set_option maxRecDepth 20000 in
theorem ggX7_units_X7_wide : GoodIn wsX7_units wsX7_wide := goodIn_r _ [17, 18, 19, 4, 20, 21, 22, 23] (by decide +kernel) (by decide +kernel)
set_option maxRecDepth 20000 in
theorem gX7_units_X7_wide : GoodIn wsX7_units (va_wsS RX7 52 yX7_wide wsX7_wide) := goodIn_app (goodIn_of _ (by decide +kernel)) ggX7_units_X7_wide
theorem dX7_units_0 : decode cX7_units 0 = .ok (.aload_n 0, 1) := by decide +kernel
theorem dX7_units_1 : decode cX7_units 1 = .ok (.iload_n 1, 1) := by decide +kernel
theorem dX7_units_2 : decode cX7_units 2 = .ok (.iconst 0, 1) := by decide +kernel
theorem dX7_units_3 : decode cX7_units 3 = .ok (.invokevirtual 46, 3) := by decide +kernel
theorem dX7_units_6 : decode cX7_units 6 = .ok (.iconst 1, 1) := by decide +kernel
theorem dX7_units_7 : decode cX7_units 7 = .ok (.isub, 1) := by decide +kernel
theorem dX7_units_8 : decode cX7_units 8 = .ok (.istore_n 2, 1) := by decide +kernel
theorem dX7_units_9 : decode cX7_units 9 = .ok (.aload_n 0, 1) := by decide +kernel
theorem dX7_units_10 : decode cX7_units 10 = .ok (.iload_n 1, 1) := by decide +kernel
theorem dX7_units_11 : decode cX7_units 11 = .ok (.iload_n 2, 1) := by decide +kernel
theorem dX7_units_12 : decode cX7_units 12 = .ok (.invokevirtual 58, 3) := by decide +kernel
theorem dX7_units_15 : decode cX7_units 15 = .ok (.aload_n 0, 1) := by decide +kernel
theorem dX7_units_16 : decode cX7_units 16 = .ok (.iload_n 1, 1) := by decide +kernel
theorem dX7_units_17 : decode cX7_units 17 = .ok (.iload_n 2, 1) := by decide +kernel
theorem dX7_units_18 : decode cX7_units 18 = .ok (.invokevirtual 49, 3) := by decide +kernel
theorem dX7_units_21 : decode cX7_units 21 = .ok (.invokestatic 52, 3) := by decide +kernel
theorem dX7_units_24 : decode cX7_units 24 = .ok (.iadd, 1) := by decide +kernel
theorem dX7_units_25 : decode cX7_units 25 = .ok (.ireturn, 1) := by decide +kernel
set_option maxRecDepth 20000 in
theorem ggX7_inkOf_X7_of : GoodIn wsX7_inkOf wsX7_of := goodIn_r _ [5, 6, 20, 21, 22, 23, 24, 25, 26] (by decide +kernel) (by decide +kernel)
set_option maxRecDepth 20000 in
theorem gX7_inkOf_X7_of : GoodIn wsX7_inkOf (wsV RX7 46 RX7 yX7_of wsX7_of) := goodIn_app (goodIn_of _ (by decide +kernel)) ggX7_inkOf_X7_of
set_option maxRecDepth 20000 in
theorem ggX7_inkOf_X7_signOf : GoodIn wsX7_inkOf wsX7_signOf := goodIn_r _ [10, 1, 2, 3, 4, 5, 6, 20, 21, 22, 23, 24, 25, 26] (by decide +kernel) (by decide +kernel)
set_option maxRecDepth 20000 in
theorem gX7_inkOf_X7_signOf : GoodIn wsX7_inkOf (wsV RX7 49 RX7 yX7_signOf wsX7_signOf) := goodIn_app (goodIn_of _ (by decide +kernel)) ggX7_inkOf_X7_signOf
set_option maxRecDepth 20000 in
theorem ggX7_inkOf_X7_ink : GoodIn wsX7_inkOf wsX7_ink := goodIn_r _ [13, 14, 15, 4, 16, 17, 18, 19] (by decide +kernel) (by decide +kernel)
set_option maxRecDepth 20000 in
theorem gX7_inkOf_X7_ink : GoodIn wsX7_inkOf (va_wsS RX7 61 yX7_ink wsX7_ink) := goodIn_app (goodIn_of _ (by decide +kernel)) ggX7_inkOf_X7_ink
theorem dX7_inkOf_0 : decode cX7_inkOf 0 = .ok (.iconst 0, 1) := by decide +kernel
theorem dX7_inkOf_1 : decode cX7_inkOf 1 = .ok (.istore_n 2, 1) := by decide +kernel
theorem dX7_inkOf_2 : decode cX7_inkOf 2 = .ok (.iconst 0, 1) := by decide +kernel
theorem dX7_inkOf_3 : decode cX7_inkOf 3 = .ok (.istore_n 3, 1) := by decide +kernel
theorem dX7_inkOf_4 : decode cX7_inkOf 4 = .ok (.iload_n 3, 1) := by decide +kernel
theorem dX7_inkOf_5 : decode cX7_inkOf 5 = .ok (.aload_n 0, 1) := by decide +kernel
theorem dX7_inkOf_6 : decode cX7_inkOf 6 = .ok (.iload_n 1, 1) := by decide +kernel
theorem dX7_inkOf_7 : decode cX7_inkOf 7 = .ok (.iconst 0, 1) := by decide +kernel
theorem dX7_inkOf_8 : decode cX7_inkOf 8 = .ok (.invokevirtual 46, 3) := by decide +kernel
theorem dX7_inkOf_11 : decode cX7_inkOf 11 = .ok (.if_icmp .ge 21, 3) := by decide +kernel
theorem dX7_inkOf_14 : decode cX7_inkOf 14 = .ok (.iload_n 2, 1) := by decide +kernel
theorem dX7_inkOf_15 : decode cX7_inkOf 15 = .ok (.aload_n 0, 1) := by decide +kernel
theorem dX7_inkOf_16 : decode cX7_inkOf 16 = .ok (.iload_n 1, 1) := by decide +kernel
theorem dX7_inkOf_17 : decode cX7_inkOf 17 = .ok (.iload_n 3, 1) := by decide +kernel
theorem dX7_inkOf_18 : decode cX7_inkOf 18 = .ok (.invokevirtual 49, 3) := by decide +kernel
theorem dX7_inkOf_21 : decode cX7_inkOf 21 = .ok (.invokestatic 61, 3) := by decide +kernel
theorem dX7_inkOf_24 : decode cX7_inkOf 24 = .ok (.iadd, 1) := by decide +kernel
theorem dX7_inkOf_25 : decode cX7_inkOf 25 = .ok (.istore_n 2, 1) := by decide +kernel
theorem dX7_inkOf_26 : decode cX7_inkOf 26 = .ok (.iinc 3 1, 3) := by decide +kernel
theorem dX7_inkOf_29 : decode cX7_inkOf 29 = .ok (.goto (-25), 3) := by decide +kernel
theorem dX7_inkOf_32 : decode cX7_inkOf 32 = .ok (.iload_n 2, 1) := by decide +kernel
theorem dX7_inkOf_33 : decode cX7_inkOf 33 = .ok (.ireturn, 1) := by decide +kernel
theorem dX7_columnWide_0 : decode cX7_columnWide 0 = .ok (.iload_n 0, 1) := by decide +kernel
theorem dX7_columnWide_1 : decode cX7_columnWide 1 = .ok (.iconst 2, 1) := by decide +kernel
theorem dX7_columnWide_2 : decode cX7_columnWide 2 = .ok (.iload_n 1, 1) := by decide +kernel
theorem dX7_columnWide_3 : decode cX7_columnWide 3 = .ok (.imul, 1) := by decide +kernel
theorem dX7_columnWide_4 : decode cX7_columnWide 4 = .ok (.isub, 1) := by decide +kernel
theorem dX7_columnWide_5 : decode cX7_columnWide 5 = .ok (.iload_n 2, 1) := by decide +kernel
theorem dX7_columnWide_6 : decode cX7_columnWide 6 = .ok (.idiv, 1) := by decide +kernel
theorem dX7_columnWide_7 : decode cX7_columnWide 7 = .ok (.ireturn, 1) := by decide +kernel
set_option maxRecDepth 20000 in
theorem ggX7_column_X7_columnWide : GoodIn wsX7_column wsX7_columnWide := goodIn_r _ [5] (by decide +kernel) (by decide +kernel)
set_option maxRecDepth 20000 in
theorem gX7_column_X7_columnWide : GoodIn wsX7_column (va_wsS RX7 64 yX7_columnWide wsX7_columnWide) := goodIn_app (goodIn_of _ (by decide +kernel)) ggX7_column_X7_columnWide
theorem dX7_column_0 : decode cX7_column 0 = .ok (.aload_n 0, 1) := by decide +kernel
theorem dX7_column_1 : decode cX7_column 1 = .ok (.getfield 7, 3) := by decide +kernel
theorem dX7_column_4 : decode cX7_column 4 = .ok (.iconst 0, 1) := by decide +kernel
theorem dX7_column_5 : decode cX7_column 5 = .ok (.iaload, 1) := by decide +kernel
theorem dX7_column_6 : decode cX7_column 6 = .ok (.aload_n 0, 1) := by decide +kernel
theorem dX7_column_7 : decode cX7_column 7 = .ok (.getfield 7, 3) := by decide +kernel
theorem dX7_column_10 : decode cX7_column 10 = .ok (.iconst 2, 1) := by decide +kernel
theorem dX7_column_11 : decode cX7_column 11 = .ok (.iaload, 1) := by decide +kernel
theorem dX7_column_12 : decode cX7_column 12 = .ok (.aload_n 0, 1) := by decide +kernel
theorem dX7_column_13 : decode cX7_column 13 = .ok (.getfield 7, 3) := by decide +kernel
theorem dX7_column_16 : decode cX7_column 16 = .ok (.iconst 3, 1) := by decide +kernel
theorem dX7_column_17 : decode cX7_column 17 = .ok (.iaload, 1) := by decide +kernel
theorem dX7_column_18 : decode cX7_column 18 = .ok (.invokestatic 64, 3) := by decide +kernel
theorem dX7_column_21 : decode cX7_column 21 = .ok (.ireturn, 1) := by decide +kernel
set_option maxRecDepth 20000 in
theorem ggX7_greatest_X7_columnWide : GoodIn wsX7_greatest wsX7_columnWide := goodIn_r _ [5] (by decide +kernel) (by decide +kernel)
set_option maxRecDepth 20000 in
theorem gX7_greatest_X7_columnWide : GoodIn wsX7_greatest (va_wsS RX7 64 yX7_columnWide wsX7_columnWide) := goodIn_app (goodIn_of _ (by decide +kernel)) ggX7_greatest_X7_columnWide
theorem dX7_greatest_0 : decode cX7_greatest 0 = .ok (.iconst 0, 1) := by decide +kernel
theorem dX7_greatest_1 : decode cX7_greatest 1 = .ok (.istore 5, 2) := by decide +kernel
theorem dX7_greatest_3 : decode cX7_greatest 3 = .ok (.iconst 1, 1) := by decide +kernel
theorem dX7_greatest_4 : decode cX7_greatest 4 = .ok (.istore 6, 2) := by decide +kernel
theorem dX7_greatest_6 : decode cX7_greatest 6 = .ok (.iload 6, 2) := by decide +kernel
theorem dX7_greatest_8 : decode cX7_greatest 8 = .ok (.bipush 40, 2) := by decide +kernel
theorem dX7_greatest_10 : decode cX7_greatest 10 = .ok (.if_icmp .gt 78, 3) := by decide +kernel
theorem dX7_greatest_13 : decode cX7_greatest 13 = .ok (.iload_n 1, 1) := by decide +kernel
theorem dX7_greatest_14 : decode cX7_greatest 14 = .ok (.iload 6, 2) := by decide +kernel
theorem dX7_greatest_16 : decode cX7_greatest 16 = .ok (.imul, 1) := by decide +kernel
theorem dX7_greatest_17 : decode cX7_greatest 17 = .ok (.iload_n 3, 1) := by decide +kernel
theorem dX7_greatest_18 : decode cX7_greatest 18 = .ok (.aload_n 0, 1) := by decide +kernel
theorem dX7_greatest_19 : decode cX7_greatest 19 = .ok (.getfield 7, 3) := by decide +kernel
theorem dX7_greatest_22 : decode cX7_greatest 22 = .ok (.iconst 2, 1) := by decide +kernel
theorem dX7_greatest_23 : decode cX7_greatest 23 = .ok (.iaload, 1) := by decide +kernel
theorem dX7_greatest_24 : decode cX7_greatest 24 = .ok (.aload_n 0, 1) := by decide +kernel
theorem dX7_greatest_25 : decode cX7_greatest 25 = .ok (.getfield 7, 3) := by decide +kernel
theorem dX7_greatest_28 : decode cX7_greatest 28 = .ok (.iconst 3, 1) := by decide +kernel
theorem dX7_greatest_29 : decode cX7_greatest 29 = .ok (.iaload, 1) := by decide +kernel
theorem dX7_greatest_30 : decode cX7_greatest 30 = .ok (.invokestatic 64, 3) := by decide +kernel
theorem dX7_greatest_33 : decode cX7_greatest 33 = .ok (.if_icmp .gt 28, 3) := by decide +kernel
theorem dX7_greatest_36 : decode cX7_greatest 36 = .ok (.bipush 12, 2) := by decide +kernel
theorem dX7_greatest_38 : decode cX7_greatest 38 = .ok (.iload 6, 2) := by decide +kernel
theorem dX7_greatest_40 : decode cX7_greatest 40 = .ok (.imul, 1) := by decide +kernel
theorem dX7_greatest_41 : decode cX7_greatest 41 = .ok (.iload_n 2, 1) := by decide +kernel
theorem dX7_greatest_42 : decode cX7_greatest 42 = .ok (.imul, 1) := by decide +kernel
theorem dX7_greatest_43 : decode cX7_greatest 43 = .ok (.iload 4, 2) := by decide +kernel
theorem dX7_greatest_45 : decode cX7_greatest 45 = .ok (.iconst 2, 1) := by decide +kernel
theorem dX7_greatest_46 : decode cX7_greatest 46 = .ok (.aload_n 0, 1) := by decide +kernel
theorem dX7_greatest_47 : decode cX7_greatest 47 = .ok (.getfield 7, 3) := by decide +kernel
theorem dX7_greatest_50 : decode cX7_greatest 50 = .ok (.iconst 2, 1) := by decide +kernel
theorem dX7_greatest_51 : decode cX7_greatest 51 = .ok (.iaload, 1) := by decide +kernel
theorem dX7_greatest_52 : decode cX7_greatest 52 = .ok (.imul, 1) := by decide +kernel
theorem dX7_greatest_53 : decode cX7_greatest 53 = .ok (.isub, 1) := by decide +kernel
theorem dX7_greatest_54 : decode cX7_greatest 54 = .ok (.if_icmp .gt 7, 3) := by decide +kernel
theorem dX7_greatest_57 : decode cX7_greatest 57 = .ok (.iconst 1, 1) := by decide +kernel
theorem dX7_greatest_58 : decode cX7_greatest 58 = .ok (.goto 4, 3) := by decide +kernel
theorem dX7_greatest_61 : decode cX7_greatest 61 = .ok (.iconst 0, 1) := by decide +kernel
theorem dX7_greatest_62 : decode cX7_greatest 62 = .ok (.istore 7, 2) := by decide +kernel
theorem dX7_greatest_64 : decode cX7_greatest 64 = .ok (.iload 7, 2) := by decide +kernel
theorem dX7_greatest_66 : decode cX7_greatest 66 = .ok (.ifCond .ne 7, 3) := by decide +kernel
theorem dX7_greatest_69 : decode cX7_greatest 69 = .ok (.iload_n 2, 1) := by decide +kernel
theorem dX7_greatest_70 : decode cX7_greatest 70 = .ok (.ifCond .ne 8, 3) := by decide +kernel
theorem dX7_greatest_73 : decode cX7_greatest 73 = .ok (.iload 6, 2) := by decide +kernel
theorem dX7_greatest_75 : decode cX7_greatest 75 = .ok (.goto 5, 3) := by decide +kernel
theorem dX7_greatest_78 : decode cX7_greatest 78 = .ok (.iload 5, 2) := by decide +kernel
theorem dX7_greatest_80 : decode cX7_greatest 80 = .ok (.istore 5, 2) := by decide +kernel
theorem dX7_greatest_82 : decode cX7_greatest 82 = .ok (.iinc 6 1, 3) := by decide +kernel
theorem dX7_greatest_85 : decode cX7_greatest 85 = .ok (.goto (-79), 3) := by decide +kernel
theorem dX7_greatest_88 : decode cX7_greatest 88 = .ok (.iload 5, 2) := by decide +kernel
theorem dX7_greatest_90 : decode cX7_greatest 90 = .ok (.ireturn, 1) := by decide +kernel
theorem dX7_rowsOf_0 : decode cX7_rowsOf 0 = .ok (.iload_n 1, 1) := by decide +kernel
theorem dX7_rowsOf_1 : decode cX7_rowsOf 1 = .ok (.aload_n 0, 1) := by decide +kernel
theorem dX7_rowsOf_2 : decode cX7_rowsOf 2 = .ok (.getfield 7, 3) := by decide +kernel
theorem dX7_rowsOf_5 : decode cX7_rowsOf 5 = .ok (.iconst 3, 1) := by decide +kernel
theorem dX7_rowsOf_6 : decode cX7_rowsOf 6 = .ok (.iaload, 1) := by decide +kernel
theorem dX7_rowsOf_7 : decode cX7_rowsOf 7 = .ok (.iadd, 1) := by decide +kernel
theorem dX7_rowsOf_8 : decode cX7_rowsOf 8 = .ok (.iconst 1, 1) := by decide +kernel
theorem dX7_rowsOf_9 : decode cX7_rowsOf 9 = .ok (.isub, 1) := by decide +kernel
theorem dX7_rowsOf_10 : decode cX7_rowsOf 10 = .ok (.aload_n 0, 1) := by decide +kernel
theorem dX7_rowsOf_11 : decode cX7_rowsOf 11 = .ok (.getfield 7, 3) := by decide +kernel
theorem dX7_rowsOf_14 : decode cX7_rowsOf 14 = .ok (.iconst 3, 1) := by decide +kernel
theorem dX7_rowsOf_15 : decode cX7_rowsOf 15 = .ok (.iaload, 1) := by decide +kernel
theorem dX7_rowsOf_16 : decode cX7_rowsOf 16 = .ok (.idiv, 1) := by decide +kernel
theorem dX7_rowsOf_17 : decode cX7_rowsOf 17 = .ok (.ireturn, 1) := by decide +kernel
set_option maxRecDepth 20000 in
theorem ggX7_mostUnits_X7_units : GoodIn wsX7_mostUnits wsX7_units := goodIn_r _ [6, 7, 8, 9, 5, 10, 1, 11, 12, 13, 14, 15, 16, 17, 18, 19, 20, 21, 22, 23, 24, 25, 26, 27, 28, 29, 30, 31, 32, 33, 34, 35, 36, 37, 38, 39, 40, 41, 42, 43, 44, 45, 46, 47, 48, 49] (by decide +kernel) (by decide +kernel)
set_option maxRecDepth 20000 in
theorem gX7_mostUnits_X7_units : GoodIn wsX7_mostUnits (wsV RX7 68 RX7 yX7_units wsX7_units) := goodIn_app (goodIn_of _ (by decide +kernel)) ggX7_mostUnits_X7_units
theorem dX7_mostUnits_0 : decode cX7_mostUnits 0 = .ok (.iconst 0, 1) := by decide +kernel
theorem dX7_mostUnits_1 : decode cX7_mostUnits 1 = .ok (.istore_n 2, 1) := by decide +kernel
theorem dX7_mostUnits_2 : decode cX7_mostUnits 2 = .ok (.iconst 0, 1) := by decide +kernel
theorem dX7_mostUnits_3 : decode cX7_mostUnits 3 = .ok (.istore_n 3, 1) := by decide +kernel
theorem dX7_mostUnits_4 : decode cX7_mostUnits 4 = .ok (.iload_n 3, 1) := by decide +kernel
theorem dX7_mostUnits_5 : decode cX7_mostUnits 5 = .ok (.aload_n 0, 1) := by decide +kernel
theorem dX7_mostUnits_6 : decode cX7_mostUnits 6 = .ok (.getfield 7, 3) := by decide +kernel
theorem dX7_mostUnits_9 : decode cX7_mostUnits 9 = .ok (.iconst 4, 1) := by decide +kernel
theorem dX7_mostUnits_10 : decode cX7_mostUnits 10 = .ok (.iaload, 1) := by decide +kernel
theorem dX7_mostUnits_11 : decode cX7_mostUnits 11 = .ok (.if_icmp .ge 38, 3) := by decide +kernel
theorem dX7_mostUnits_14 : decode cX7_mostUnits 14 = .ok (.iload_n 3, 1) := by decide +kernel
theorem dX7_mostUnits_15 : decode cX7_mostUnits 15 = .ok (.iload_n 1, 1) := by decide +kernel
theorem dX7_mostUnits_16 : decode cX7_mostUnits 16 = .ok (.if_icmp .ne 7, 3) := by decide +kernel
theorem dX7_mostUnits_19 : decode cX7_mostUnits 19 = .ok (.iconst 0, 1) := by decide +kernel
theorem dX7_mostUnits_20 : decode cX7_mostUnits 20 = .ok (.goto 8, 3) := by decide +kernel
theorem dX7_mostUnits_23 : decode cX7_mostUnits 23 = .ok (.aload_n 0, 1) := by decide +kernel
theorem dX7_mostUnits_24 : decode cX7_mostUnits 24 = .ok (.iload_n 3, 1) := by decide +kernel
theorem dX7_mostUnits_25 : decode cX7_mostUnits 25 = .ok (.invokevirtual 68, 3) := by decide +kernel
theorem dX7_mostUnits_28 : decode cX7_mostUnits 28 = .ok (.istore 4, 2) := by decide +kernel
theorem dX7_mostUnits_30 : decode cX7_mostUnits 30 = .ok (.iload 4, 2) := by decide +kernel
theorem dX7_mostUnits_32 : decode cX7_mostUnits 32 = .ok (.iload_n 2, 1) := by decide +kernel
theorem dX7_mostUnits_33 : decode cX7_mostUnits 33 = .ok (.if_icmp .le 8, 3) := by decide +kernel
theorem dX7_mostUnits_36 : decode cX7_mostUnits 36 = .ok (.iload 4, 2) := by decide +kernel
theorem dX7_mostUnits_38 : decode cX7_mostUnits 38 = .ok (.goto 4, 3) := by decide +kernel
theorem dX7_mostUnits_41 : decode cX7_mostUnits 41 = .ok (.iload_n 2, 1) := by decide +kernel
theorem dX7_mostUnits_42 : decode cX7_mostUnits 42 = .ok (.istore_n 2, 1) := by decide +kernel
theorem dX7_mostUnits_43 : decode cX7_mostUnits 43 = .ok (.iinc 3 1, 3) := by decide +kernel
theorem dX7_mostUnits_46 : decode cX7_mostUnits 46 = .ok (.goto (-42), 3) := by decide +kernel
theorem dX7_mostUnits_49 : decode cX7_mostUnits 49 = .ok (.iload_n 2, 1) := by decide +kernel
theorem dX7_mostUnits_50 : decode cX7_mostUnits 50 = .ok (.ireturn, 1) := by decide +kernel
set_option maxRecDepth 20000 in
theorem ggX7_free_X7_mostUnits : GoodIn wsX7_free wsX7_mostUnits := goodIn_r _ [6, 1, 7, 8, 9, 5, 10, 11, 12, 13, 14, 15, 16, 17, 18, 19, 20, 21, 22, 23, 24, 25, 26, 27, 28, 29, 30, 31, 32, 33, 34, 35, 36, 37, 38, 39, 40, 41, 42, 43, 44, 45, 46, 58, 59, 60, 61, 62, 63, 64] (by decide +kernel) (by decide +kernel)
set_option maxRecDepth 20000 in
theorem gX7_free_X7_mostUnits : GoodIn wsX7_free (wsV RX7 71 RX7 yX7_mostUnits wsX7_mostUnits) := goodIn_app (goodIn_of _ (by decide +kernel)) ggX7_free_X7_mostUnits
set_option maxRecDepth 20000 in
theorem ggX7_free_X7_rowsOf : GoodIn wsX7_free wsX7_rowsOf := goodIn_r _ [50, 1, 58, 59, 60, 61, 62, 63, 64] (by decide +kernel) (by decide +kernel)
set_option maxRecDepth 20000 in
theorem gX7_free_X7_rowsOf : GoodIn wsX7_free (wsV RX7 74 RX7 yX7_rowsOf wsX7_rowsOf) := goodIn_app (goodIn_of _ (by decide +kernel)) ggX7_free_X7_rowsOf
set_option maxRecDepth 20000 in
theorem ggX7_free_X7_greatest : GoodIn wsX7_free wsX7_greatest := goodIn_r _ [54, 1, 55, 56, 5, 57, 58, 59, 60, 61, 62, 63, 64] (by decide +kernel) (by decide +kernel)
set_option maxRecDepth 20000 in
theorem gX7_free_X7_greatest : GoodIn wsX7_free (wsV RX7 77 RX7 yX7_greatest wsX7_greatest) := goodIn_app (goodIn_of _ (by decide +kernel)) ggX7_free_X7_greatest
theorem dX7_free_0 : decode cX7_free 0 = .ok (.aload_n 0, 1) := by decide +kernel
theorem dX7_free_1 : decode cX7_free 1 = .ok (.aload_n 0, 1) := by decide +kernel
theorem dX7_free_2 : decode cX7_free 2 = .ok (.sipush (-1005), 3) := by decide +kernel
theorem dX7_free_5 : decode cX7_free 5 = .ok (.invokevirtual 71, 3) := by decide +kernel
theorem dX7_free_8 : decode cX7_free 8 = .ok (.aload_n 0, 1) := by decide +kernel
theorem dX7_free_9 : decode cX7_free 9 = .ok (.aload_n 0, 1) := by decide +kernel
theorem dX7_free_10 : decode cX7_free 10 = .ok (.getfield 7, 3) := by decide +kernel
theorem dX7_free_13 : decode cX7_free 13 = .ok (.iconst 4, 1) := by decide +kernel
theorem dX7_free_14 : decode cX7_free 14 = .ok (.iaload, 1) := by decide +kernel
theorem dX7_free_15 : decode cX7_free 15 = .ok (.invokevirtual 74, 3) := by decide +kernel
theorem dX7_free_18 : decode cX7_free 18 = .ok (.iload_n 1, 1) := by decide +kernel
theorem dX7_free_19 : decode cX7_free 19 = .ok (.iload_n 2, 1) := by decide +kernel
theorem dX7_free_20 : decode cX7_free 20 = .ok (.invokevirtual 77, 3) := by decide +kernel
theorem dX7_free_23 : decode cX7_free 23 = .ok (.ireturn, 1) := by decide +kernel
set_option maxRecDepth 20000 in
theorem ggX7_size_X7_engraved : GoodIn wsX7_size wsX7_engraved := goodIn_r _ [6, 1, 7, 8, 9, 5, 10, 66, 67, 68, 69, 70, 71, 72] (by decide +kernel) (by decide +kernel)
set_option maxRecDepth 20000 in
theorem gX7_size_X7_engraved : GoodIn wsX7_size (wsV RX7 81 RX7 yX7_engraved wsX7_engraved) := goodIn_app (goodIn_of _ (by decide +kernel)) ggX7_size_X7_engraved
set_option maxRecDepth 20000 in
theorem ggX7_size_X7_free : GoodIn wsX7_size wsX7_free := goodIn_r _ [14, 1, 15, 16, 17, 5, 18, 19, 20, 21, 22, 7, 8, 9, 10, 23, 24, 25, 26, 27, 28, 29, 30, 31, 32, 33, 34, 35, 36, 37, 38, 39, 40, 41, 42, 43, 44, 45, 46, 47, 48, 49, 50, 51, 52, 53, 54, 55, 56, 57, 58, 59, 60, 61, 62, 63, 64, 65, 66, 67, 68, 69, 70, 71, 72] (by decide +kernel) (by decide +kernel)
set_option maxRecDepth 20000 in
theorem gX7_size_X7_free : GoodIn wsX7_size (wsV RX7 85 RX7 yX7_free wsX7_free) := goodIn_app (goodIn_of _ (by decide +kernel)) ggX7_size_X7_free
theorem dX7_size_0 : decode cX7_size 0 = .ok (.aload_n 0, 1) := by decide +kernel
theorem dX7_size_1 : decode cX7_size 1 = .ok (.invokevirtual 81, 3) := by decide +kernel
theorem dX7_size_4 : decode cX7_size 4 = .ok (.ifCond .le 12, 3) := by decide +kernel
theorem dX7_size_7 : decode cX7_size 7 = .ok (.aload_n 0, 1) := by decide +kernel
theorem dX7_size_8 : decode cX7_size 8 = .ok (.getfield 7, 3) := by decide +kernel
theorem dX7_size_11 : decode cX7_size 11 = .ok (.iconst 5, 1) := by decide +kernel
theorem dX7_size_12 : decode cX7_size 12 = .ok (.iaload, 1) := by decide +kernel
theorem dX7_size_13 : decode cX7_size 13 = .ok (.goto 19, 3) := by decide +kernel
theorem dX7_size_16 : decode cX7_size 16 = .ok (.aload_n 0, 1) := by decide +kernel
theorem dX7_size_17 : decode cX7_size 17 = .ok (.aload_n 0, 1) := by decide +kernel
theorem dX7_size_18 : decode cX7_size 18 = .ok (.getfield 7, 3) := by decide +kernel
theorem dX7_size_21 : decode cX7_size 21 = .ok (.iconst 0, 1) := by decide +kernel
theorem dX7_size_22 : decode cX7_size 22 = .ok (.iaload, 1) := by decide +kernel
theorem dX7_size_23 : decode cX7_size 23 = .ok (.aload_n 0, 1) := by decide +kernel
theorem dX7_size_24 : decode cX7_size 24 = .ok (.getfield 7, 3) := by decide +kernel
theorem dX7_size_27 : decode cX7_size 27 = .ok (.iconst 1, 1) := by decide +kernel
theorem dX7_size_28 : decode cX7_size 28 = .ok (.iaload, 1) := by decide +kernel
theorem dX7_size_29 : decode cX7_size 29 = .ok (.invokevirtual 85, 3) := by decide +kernel
theorem dX7_size_32 : decode cX7_size 32 = .ok (.ireturn, 1) := by decide +kernel
theorem dX7_rowOf_0 : decode cX7_rowOf 0 = .ok (.iload_n 1, 1) := by decide +kernel
theorem dX7_rowOf_1 : decode cX7_rowOf 1 = .ok (.aload_n 0, 1) := by decide +kernel
theorem dX7_rowOf_2 : decode cX7_rowOf 2 = .ok (.getfield 7, 3) := by decide +kernel
theorem dX7_rowOf_5 : decode cX7_rowOf 5 = .ok (.iconst 3, 1) := by decide +kernel
theorem dX7_rowOf_6 : decode cX7_rowOf 6 = .ok (.iaload, 1) := by decide +kernel
theorem dX7_rowOf_7 : decode cX7_rowOf 7 = .ok (.idiv, 1) := by decide +kernel
theorem dX7_rowOf_8 : decode cX7_rowOf 8 = .ok (.ireturn, 1) := by decide +kernel
set_option maxRecDepth 20000 in
theorem ggX7_columnBegin_X7_column : GoodIn wsX7_columnBegin wsX7_column := goodIn_r _ [6, 1, 7, 8, 5, 9, 10, 11, 12, 13, 14, 15, 16] (by decide +kernel) (by decide +kernel)
set_option maxRecDepth 20000 in
theorem gX7_columnBegin_X7_column : GoodIn wsX7_columnBegin (wsV RX7 88 RX7 yX7_column wsX7_column) := goodIn_app (goodIn_of _ (by decide +kernel)) ggX7_columnBegin_X7_column
theorem dX7_columnBegin_0 : decode cX7_columnBegin 0 = .ok (.aload_n 0, 1) := by decide +kernel
theorem dX7_columnBegin_1 : decode cX7_columnBegin 1 = .ok (.getfield 7, 3) := by decide +kernel
theorem dX7_columnBegin_4 : decode cX7_columnBegin 4 = .ok (.iconst 2, 1) := by decide +kernel
theorem dX7_columnBegin_5 : decode cX7_columnBegin 5 = .ok (.iaload, 1) := by decide +kernel
theorem dX7_columnBegin_6 : decode cX7_columnBegin 6 = .ok (.iload_n 1, 1) := by decide +kernel
theorem dX7_columnBegin_7 : decode cX7_columnBegin 7 = .ok (.aload_n 0, 1) := by decide +kernel
theorem dX7_columnBegin_8 : decode cX7_columnBegin 8 = .ok (.getfield 7, 3) := by decide +kernel
theorem dX7_columnBegin_11 : decode cX7_columnBegin 11 = .ok (.iconst 3, 1) := by decide +kernel
theorem dX7_columnBegin_12 : decode cX7_columnBegin 12 = .ok (.iaload, 1) := by decide +kernel
theorem dX7_columnBegin_13 : decode cX7_columnBegin 13 = .ok (.irem, 1) := by decide +kernel
theorem dX7_columnBegin_14 : decode cX7_columnBegin 14 = .ok (.aload_n 0, 1) := by decide +kernel
theorem dX7_columnBegin_15 : decode cX7_columnBegin 15 = .ok (.invokevirtual 88, 3) := by decide +kernel
theorem dX7_columnBegin_18 : decode cX7_columnBegin 18 = .ok (.imul, 1) := by decide +kernel
theorem dX7_columnBegin_19 : decode cX7_columnBegin 19 = .ok (.iadd, 1) := by decide +kernel
theorem dX7_columnBegin_20 : decode cX7_columnBegin 20 = .ok (.ireturn, 1) := by decide +kernel
set_option maxRecDepth 20000 in
theorem ggX7_fits_X7_units : GoodIn wsX7_fits wsX7_units := goodIn_r _ [6, 7, 8, 9, 5, 10, 1, 11, 12, 13, 14, 15, 16, 17, 18, 19, 20, 21, 22, 23, 24, 25, 26, 27, 28, 29, 30, 31, 32, 33, 34, 35, 36, 37, 38, 39, 40, 41, 42, 54, 55, 56, 57, 58, 59, 60] (by decide +kernel) (by decide +kernel)
set_option maxRecDepth 20000 in
theorem gX7_fits_X7_units : GoodIn wsX7_fits (wsV RX7 68 RX7 yX7_units wsX7_units) := goodIn_app (goodIn_of _ (by decide +kernel)) ggX7_fits_X7_units
set_option maxRecDepth 20000 in
theorem ggX7_fits_X7_column : GoodIn wsX7_fits wsX7_column := goodIn_r _ [46, 1, 47, 48, 5, 49, 54, 55, 56, 57, 58, 59, 60] (by decide +kernel) (by decide +kernel)
set_option maxRecDepth 20000 in
theorem gX7_fits_X7_column : GoodIn wsX7_fits (wsV RX7 88 RX7 yX7_column wsX7_column) := goodIn_app (goodIn_of _ (by decide +kernel)) ggX7_fits_X7_column
set_option maxRecDepth 20000 in
theorem ggX7_fits_X7_rowOf : GoodIn wsX7_fits wsX7_rowOf := goodIn_r _ [53, 1, 54, 55, 56, 57, 58, 59, 60] (by decide +kernel) (by decide +kernel)
set_option maxRecDepth 20000 in
theorem gX7_fits_X7_rowOf : GoodIn wsX7_fits (wsV RX7 91 RX7 yX7_rowOf wsX7_rowOf) := goodIn_app (goodIn_of _ (by decide +kernel)) ggX7_fits_X7_rowOf
theorem dX7_fits_0 : decode cX7_fits 0 = .ok (.iload_n 2, 1) := by decide +kernel
theorem dX7_fits_1 : decode cX7_fits 1 = .ok (.ifCond .le 51, 3) := by decide +kernel
theorem dX7_fits_4 : decode cX7_fits 4 = .ok (.aload_n 0, 1) := by decide +kernel
theorem dX7_fits_5 : decode cX7_fits 5 = .ok (.iload_n 1, 1) := by decide +kernel
theorem dX7_fits_6 : decode cX7_fits 6 = .ok (.invokevirtual 68, 3) := by decide +kernel
theorem dX7_fits_9 : decode cX7_fits 9 = .ok (.iload_n 2, 1) := by decide +kernel
theorem dX7_fits_10 : decode cX7_fits 10 = .ok (.imul, 1) := by decide +kernel
theorem dX7_fits_11 : decode cX7_fits 11 = .ok (.aload_n 0, 1) := by decide +kernel
theorem dX7_fits_12 : decode cX7_fits 12 = .ok (.invokevirtual 88, 3) := by decide +kernel
theorem dX7_fits_15 : decode cX7_fits 15 = .ok (.if_icmp .gt 37, 3) := by decide +kernel
theorem dX7_fits_18 : decode cX7_fits 18 = .ok (.bipush 12, 2) := by decide +kernel
theorem dX7_fits_20 : decode cX7_fits 20 = .ok (.iload_n 2, 1) := by decide +kernel
theorem dX7_fits_21 : decode cX7_fits 21 = .ok (.imul, 1) := by decide +kernel
theorem dX7_fits_22 : decode cX7_fits 22 = .ok (.aload_n 0, 1) := by decide +kernel
theorem dX7_fits_23 : decode cX7_fits 23 = .ok (.iload_n 1, 1) := by decide +kernel
theorem dX7_fits_24 : decode cX7_fits 24 = .ok (.invokevirtual 91, 3) := by decide +kernel
theorem dX7_fits_27 : decode cX7_fits 27 = .ok (.iconst 1, 1) := by decide +kernel
theorem dX7_fits_28 : decode cX7_fits 28 = .ok (.iadd, 1) := by decide +kernel
theorem dX7_fits_29 : decode cX7_fits 29 = .ok (.imul, 1) := by decide +kernel
theorem dX7_fits_30 : decode cX7_fits 30 = .ok (.aload_n 0, 1) := by decide +kernel
theorem dX7_fits_31 : decode cX7_fits 31 = .ok (.getfield 7, 3) := by decide +kernel
theorem dX7_fits_34 : decode cX7_fits 34 = .ok (.iconst 1, 1) := by decide +kernel
theorem dX7_fits_35 : decode cX7_fits 35 = .ok (.iaload, 1) := by decide +kernel
theorem dX7_fits_36 : decode cX7_fits 36 = .ok (.iconst 2, 1) := by decide +kernel
theorem dX7_fits_37 : decode cX7_fits 37 = .ok (.aload_n 0, 1) := by decide +kernel
theorem dX7_fits_38 : decode cX7_fits 38 = .ok (.getfield 7, 3) := by decide +kernel
theorem dX7_fits_41 : decode cX7_fits 41 = .ok (.iconst 2, 1) := by decide +kernel
theorem dX7_fits_42 : decode cX7_fits 42 = .ok (.iaload, 1) := by decide +kernel
theorem dX7_fits_43 : decode cX7_fits 43 = .ok (.imul, 1) := by decide +kernel
theorem dX7_fits_44 : decode cX7_fits 44 = .ok (.isub, 1) := by decide +kernel
theorem dX7_fits_45 : decode cX7_fits 45 = .ok (.if_icmp .gt 7, 3) := by decide +kernel
theorem dX7_fits_48 : decode cX7_fits 48 = .ok (.iconst 1, 1) := by decide +kernel
theorem dX7_fits_49 : decode cX7_fits 49 = .ok (.goto 4, 3) := by decide +kernel
theorem dX7_fits_52 : decode cX7_fits 52 = .ok (.iconst 0, 1) := by decide +kernel
theorem dX7_fits_53 : decode cX7_fits 53 = .ok (.ireturn, 1) := by decide +kernel
theorem dX7_down_0 : decode cX7_down 0 = .ok (.iload_n 0, 1) := by decide +kernel
theorem dX7_down_1 : decode cX7_down 1 = .ok (.iload_n 1, 1) := by decide +kernel
theorem dX7_down_2 : decode cX7_down 2 = .ok (.idiv, 1) := by decide +kernel
theorem dX7_down_3 : decode cX7_down 3 = .ok (.istore_n 2, 1) := by decide +kernel
theorem dX7_down_4 : decode cX7_down 4 = .ok (.iload_n 2, 1) := by decide +kernel
theorem dX7_down_5 : decode cX7_down 5 = .ok (.iload_n 1, 1) := by decide +kernel
theorem dX7_down_6 : decode cX7_down 6 = .ok (.imul, 1) := by decide +kernel
theorem dX7_down_7 : decode cX7_down 7 = .ok (.iload_n 0, 1) := by decide +kernel
theorem dX7_down_8 : decode cX7_down 8 = .ok (.if_icmp .le 9, 3) := by decide +kernel
theorem dX7_down_11 : decode cX7_down 11 = .ok (.iload_n 2, 1) := by decide +kernel
theorem dX7_down_12 : decode cX7_down 12 = .ok (.iconst 1, 1) := by decide +kernel
theorem dX7_down_13 : decode cX7_down 13 = .ok (.isub, 1) := by decide +kernel
theorem dX7_down_14 : decode cX7_down 14 = .ok (.goto 4, 3) := by decide +kernel
theorem dX7_down_17 : decode cX7_down 17 = .ok (.iload_n 2, 1) := by decide +kernel
theorem dX7_down_18 : decode cX7_down 18 = .ok (.ireturn, 1) := by decide +kernel
set_option maxRecDepth 20000 in
theorem ggX7_begin_X7_inkOf : GoodIn wsX7_begin wsX7_inkOf := goodIn_r _ [5, 6, 7, 8, 4, 9, 10, 11, 12, 13, 14, 15, 16, 17, 18, 19, 20, 21, 22, 23, 64, 65, 66, 67, 68, 69, 70] (by decide +kernel) (by decide +kernel)
set_option maxRecDepth 20000 in
theorem gX7_begin_X7_inkOf : GoodIn wsX7_begin (wsV RX7 94 RX7 yX7_inkOf wsX7_inkOf) := goodIn_app (goodIn_of _ (by decide +kernel)) ggX7_begin_X7_inkOf
set_option maxRecDepth 20000 in
theorem ggX7_begin_X7_of : GoodIn wsX7_begin wsX7_of := goodIn_r _ [9, 10, 64, 65, 66, 67, 68, 69, 70] (by decide +kernel) (by decide +kernel)
set_option maxRecDepth 20000 in
theorem gX7_begin_X7_of : GoodIn wsX7_begin (wsV RX7 46 RX7 yX7_of wsX7_of) := goodIn_app (goodIn_of _ (by decide +kernel)) ggX7_begin_X7_of
set_option maxRecDepth 20000 in
theorem ggX7_begin_X7_signOf : GoodIn wsX7_begin wsX7_signOf := goodIn_r _ [14, 6, 7, 8, 4, 9, 10, 64, 65, 66, 67, 68, 69, 70] (by decide +kernel) (by decide +kernel)
set_option maxRecDepth 20000 in
theorem gX7_begin_X7_signOf : GoodIn wsX7_begin (wsV RX7 49 RX7 yX7_signOf wsX7_signOf) := goodIn_app (goodIn_of _ (by decide +kernel)) ggX7_begin_X7_signOf
set_option maxRecDepth 20000 in
theorem ggX7_begin_X7_ink : GoodIn wsX7_begin wsX7_ink := goodIn_r _ [17, 18, 19, 4, 20, 21, 22, 23] (by decide +kernel) (by decide +kernel)
set_option maxRecDepth 20000 in
theorem gX7_begin_X7_ink : GoodIn wsX7_begin (va_wsS RX7 61 yX7_ink wsX7_ink) := goodIn_app (goodIn_of _ (by decide +kernel)) ggX7_begin_X7_ink
set_option maxRecDepth 20000 in
theorem ggX7_begin_X7_unitsTo : GoodIn wsX7_begin wsX7_unitsTo := goodIn_r _ [27, 11, 12, 13, 4, 14, 6, 7, 8, 9, 10, 28, 29, 30, 18, 19, 20, 21, 22, 23, 31, 32, 33, 34, 35, 36, 37, 38, 39, 40, 41, 42, 43, 44, 45, 64, 65, 66, 67, 68, 69, 70] (by decide +kernel) (by decide +kernel)
set_option maxRecDepth 20000 in
theorem gX7_begin_X7_unitsTo : GoodIn wsX7_begin (wsV RX7 58 RX7 yX7_unitsTo wsX7_unitsTo) := goodIn_app (goodIn_of _ (by decide +kernel)) ggX7_begin_X7_unitsTo
set_option maxRecDepth 20000 in
theorem ggX7_begin_X7_wide : GoodIn wsX7_begin wsX7_wide := goodIn_r _ [30, 18, 19, 4, 20, 21, 22, 23] (by decide +kernel) (by decide +kernel)
set_option maxRecDepth 20000 in
theorem gX7_begin_X7_wide : GoodIn wsX7_begin (va_wsS RX7 52 yX7_wide wsX7_wide) := goodIn_app (goodIn_of _ (by decide +kernel)) ggX7_begin_X7_wide
set_option maxRecDepth 20000 in
theorem ggX7_begin_X7_columnBegin : GoodIn wsX7_begin wsX7_columnBegin := goodIn_r _ [49, 10, 50, 51, 52, 4, 53, 54, 55, 56, 64, 65, 66, 67, 68, 69, 70] (by decide +kernel) (by decide +kernel)
set_option maxRecDepth 20000 in
theorem gX7_begin_X7_columnBegin : GoodIn wsX7_begin (wsV RX7 97 RX7 yX7_columnBegin wsX7_columnBegin) := goodIn_app (goodIn_of _ (by decide +kernel)) ggX7_begin_X7_columnBegin
set_option maxRecDepth 20000 in
theorem ggX7_begin_X7_column : GoodIn wsX7_begin wsX7_column := goodIn_r _ [53, 10, 54, 55, 4, 56, 64, 65, 66, 67, 68, 69, 70] (by decide +kernel) (by decide +kernel)
set_option maxRecDepth 20000 in
theorem gX7_begin_X7_column : GoodIn wsX7_begin (wsV RX7 88 RX7 yX7_column wsX7_column) := goodIn_app (goodIn_of _ (by decide +kernel)) ggX7_begin_X7_column
set_option maxRecDepth 20000 in
theorem ggX7_begin_X7_down : GoodIn wsX7_begin wsX7_down := goodIn_r _ [59] (by decide +kernel) (by decide +kernel)
set_option maxRecDepth 20000 in
theorem gX7_begin_X7_down : GoodIn wsX7_begin (va_wsS RX7 100 yX7_down wsX7_down) := goodIn_app (goodIn_of _ (by decide +kernel)) ggX7_begin_X7_down
set_option maxRecDepth 20000 in
theorem ggX7_begin_X7_units : GoodIn wsX7_begin wsX7_units := goodIn_r _ [63, 6, 7, 8, 4, 9, 10, 24, 25, 26, 27, 11, 12, 13, 14, 28, 29, 30, 18, 19, 20, 21, 22, 23, 31, 32, 33, 34, 35, 36, 37, 38, 39, 40, 41, 42, 43, 44, 45, 64, 65, 66, 67, 68, 69, 70] (by decide +kernel) (by decide +kernel)
set_option maxRecDepth 20000 in
theorem gX7_begin_X7_units : GoodIn wsX7_begin (wsV RX7 68 RX7 yX7_units wsX7_units) := goodIn_app (goodIn_of _ (by decide +kernel)) ggX7_begin_X7_units
theorem dX7_begin_0 : decode cX7_begin 0 = .ok (.aload_n 0, 1) := by decide +kernel
theorem dX7_begin_1 : decode cX7_begin 1 = .ok (.iload_n 1, 1) := by decide +kernel
theorem dX7_begin_2 : decode cX7_begin 2 = .ok (.invokevirtual 94, 3) := by decide +kernel
theorem dX7_begin_5 : decode cX7_begin 5 = .ok (.istore_n 3, 1) := by decide +kernel
theorem dX7_begin_6 : decode cX7_begin 6 = .ok (.iconst 0, 1) := by decide +kernel
theorem dX7_begin_7 : decode cX7_begin 7 = .ok (.istore 4, 2) := by decide +kernel
theorem dX7_begin_9 : decode cX7_begin 9 = .ok (.iconst 0, 1) := by decide +kernel
theorem dX7_begin_10 : decode cX7_begin 10 = .ok (.istore 5, 2) := by decide +kernel
theorem dX7_begin_12 : decode cX7_begin 12 = .ok (.iload 5, 2) := by decide +kernel
theorem dX7_begin_14 : decode cX7_begin 14 = .ok (.aload_n 0, 1) := by decide +kernel
theorem dX7_begin_15 : decode cX7_begin 15 = .ok (.iload_n 1, 1) := by decide +kernel
theorem dX7_begin_16 : decode cX7_begin 16 = .ok (.iconst 0, 1) := by decide +kernel
theorem dX7_begin_17 : decode cX7_begin 17 = .ok (.invokevirtual 46, 3) := by decide +kernel
theorem dX7_begin_20 : decode cX7_begin 20 = .ok (.if_icmp .ge 45, 3) := by decide +kernel
theorem dX7_begin_23 : decode cX7_begin 23 = .ok (.iload 4, 2) := by decide +kernel
theorem dX7_begin_25 : decode cX7_begin 25 = .ok (.aload_n 0, 1) := by decide +kernel
theorem dX7_begin_26 : decode cX7_begin 26 = .ok (.iload_n 1, 1) := by decide +kernel
theorem dX7_begin_27 : decode cX7_begin 27 = .ok (.iload 5, 2) := by decide +kernel
theorem dX7_begin_29 : decode cX7_begin 29 = .ok (.invokevirtual 49, 3) := by decide +kernel
theorem dX7_begin_32 : decode cX7_begin 32 = .ok (.invokestatic 61, 3) := by decide +kernel
theorem dX7_begin_35 : decode cX7_begin 35 = .ok (.iconst 2, 1) := by decide +kernel
theorem dX7_begin_36 : decode cX7_begin 36 = .ok (.aload_n 0, 1) := by decide +kernel
theorem dX7_begin_37 : decode cX7_begin 37 = .ok (.iload_n 1, 1) := by decide +kernel
theorem dX7_begin_38 : decode cX7_begin 38 = .ok (.iload 5, 2) := by decide +kernel
theorem dX7_begin_40 : decode cX7_begin 40 = .ok (.invokevirtual 58, 3) := by decide +kernel
theorem dX7_begin_43 : decode cX7_begin 43 = .ok (.imul, 1) := by decide +kernel
theorem dX7_begin_44 : decode cX7_begin 44 = .ok (.aload_n 0, 1) := by decide +kernel
theorem dX7_begin_45 : decode cX7_begin 45 = .ok (.iload_n 1, 1) := by decide +kernel
theorem dX7_begin_46 : decode cX7_begin 46 = .ok (.iload 5, 2) := by decide +kernel
theorem dX7_begin_48 : decode cX7_begin 48 = .ok (.invokevirtual 49, 3) := by decide +kernel
theorem dX7_begin_51 : decode cX7_begin 51 = .ok (.invokestatic 52, 3) := by decide +kernel
theorem dX7_begin_54 : decode cX7_begin 54 = .ok (.iadd, 1) := by decide +kernel
theorem dX7_begin_55 : decode cX7_begin 55 = .ok (.imul, 1) := by decide +kernel
theorem dX7_begin_56 : decode cX7_begin 56 = .ok (.iadd, 1) := by decide +kernel
theorem dX7_begin_57 : decode cX7_begin 57 = .ok (.istore 4, 2) := by decide +kernel
theorem dX7_begin_59 : decode cX7_begin 59 = .ok (.iinc 5 1, 3) := by decide +kernel
theorem dX7_begin_62 : decode cX7_begin 62 = .ok (.goto (-50), 3) := by decide +kernel
theorem dX7_begin_65 : decode cX7_begin 65 = .ok (.aload_n 0, 1) := by decide +kernel
theorem dX7_begin_66 : decode cX7_begin 66 = .ok (.iload_n 1, 1) := by decide +kernel
theorem dX7_begin_67 : decode cX7_begin 67 = .ok (.invokevirtual 97, 3) := by decide +kernel
theorem dX7_begin_70 : decode cX7_begin 70 = .ok (.istore 5, 2) := by decide +kernel
theorem dX7_begin_72 : decode cX7_begin 72 = .ok (.iload_n 3, 1) := by decide +kernel
theorem dX7_begin_73 : decode cX7_begin 73 = .ok (.iconst 2, 1) := by decide +kernel
theorem dX7_begin_74 : decode cX7_begin 74 = .ok (.iload 5, 2) := by decide +kernel
theorem dX7_begin_76 : decode cX7_begin 76 = .ok (.imul, 1) := by decide +kernel
theorem dX7_begin_77 : decode cX7_begin 77 = .ok (.aload_n 0, 1) := by decide +kernel
theorem dX7_begin_78 : decode cX7_begin 78 = .ok (.invokevirtual 88, 3) := by decide +kernel
theorem dX7_begin_81 : decode cX7_begin 81 = .ok (.iadd, 1) := by decide +kernel
theorem dX7_begin_82 : decode cX7_begin 82 = .ok (.imul, 1) := by decide +kernel
theorem dX7_begin_83 : decode cX7_begin 83 = .ok (.iload_n 2, 1) := by decide +kernel
theorem dX7_begin_84 : decode cX7_begin 84 = .ok (.iload 4, 2) := by decide +kernel
theorem dX7_begin_86 : decode cX7_begin 86 = .ok (.imul, 1) := by decide +kernel
theorem dX7_begin_87 : decode cX7_begin 87 = .ok (.isub, 1) := by decide +kernel
theorem dX7_begin_88 : decode cX7_begin 88 = .ok (.iconst 2, 1) := by decide +kernel
theorem dX7_begin_89 : decode cX7_begin 89 = .ok (.iload_n 3, 1) := by decide +kernel
theorem dX7_begin_90 : decode cX7_begin 90 = .ok (.imul, 1) := by decide +kernel
theorem dX7_begin_91 : decode cX7_begin 91 = .ok (.invokestatic 100, 3) := by decide +kernel
theorem dX7_begin_94 : decode cX7_begin 94 = .ok (.istore 6, 2) := by decide +kernel
theorem dX7_begin_96 : decode cX7_begin 96 = .ok (.iload 5, 2) := by decide +kernel
theorem dX7_begin_98 : decode cX7_begin 98 = .ok (.aload_n 0, 1) := by decide +kernel
theorem dX7_begin_99 : decode cX7_begin 99 = .ok (.invokevirtual 88, 3) := by decide +kernel
theorem dX7_begin_102 : decode cX7_begin 102 = .ok (.iadd, 1) := by decide +kernel
theorem dX7_begin_103 : decode cX7_begin 103 = .ok (.aload_n 0, 1) := by decide +kernel
theorem dX7_begin_104 : decode cX7_begin 104 = .ok (.iload_n 1, 1) := by decide +kernel
theorem dX7_begin_105 : decode cX7_begin 105 = .ok (.invokevirtual 68, 3) := by decide +kernel
theorem dX7_begin_108 : decode cX7_begin 108 = .ok (.iload_n 2, 1) := by decide +kernel
theorem dX7_begin_109 : decode cX7_begin 109 = .ok (.imul, 1) := by decide +kernel
theorem dX7_begin_110 : decode cX7_begin 110 = .ok (.isub, 1) := by decide +kernel
theorem dX7_begin_111 : decode cX7_begin 111 = .ok (.istore 7, 2) := by decide +kernel
theorem dX7_begin_113 : decode cX7_begin 113 = .ok (.iload 6, 2) := by decide +kernel
theorem dX7_begin_115 : decode cX7_begin 115 = .ok (.iload 7, 2) := by decide +kernel
theorem dX7_begin_117 : decode cX7_begin 117 = .ok (.if_icmp .le 8, 3) := by decide +kernel
theorem dX7_begin_120 : decode cX7_begin 120 = .ok (.iload 7, 2) := by decide +kernel
theorem dX7_begin_122 : decode cX7_begin 122 = .ok (.goto 5, 3) := by decide +kernel
theorem dX7_begin_125 : decode cX7_begin 125 = .ok (.iload 6, 2) := by decide +kernel
theorem dX7_begin_127 : decode cX7_begin 127 = .ok (.istore 6, 2) := by decide +kernel
theorem dX7_begin_129 : decode cX7_begin 129 = .ok (.iload 6, 2) := by decide +kernel
theorem dX7_begin_131 : decode cX7_begin 131 = .ok (.iload 5, 2) := by decide +kernel
theorem dX7_begin_133 : decode cX7_begin 133 = .ok (.if_icmp .ge 8, 3) := by decide +kernel
theorem dX7_begin_136 : decode cX7_begin 136 = .ok (.iload 5, 2) := by decide +kernel
theorem dX7_begin_138 : decode cX7_begin 138 = .ok (.goto 5, 3) := by decide +kernel
theorem dX7_begin_141 : decode cX7_begin 141 = .ok (.iload 6, 2) := by decide +kernel
theorem dX7_begin_143 : decode cX7_begin 143 = .ok (.ireturn, 1) := by decide +kernel
set_option maxRecDepth 20000 in
theorem ggX7_recut_X7_in : GoodIn wsX7_recut wsX7_in := goodIn_r _ [5] (by decide +kernel) (by decide +kernel)
set_option maxRecDepth 20000 in
theorem gX7_recut_X7_in : GoodIn wsX7_recut (va_wsS RX7 27 yX7_in wsX7_in) := goodIn_app (goodIn_of _ (by decide +kernel)) ggX7_recut_X7_in
set_option maxRecDepth 20000 in
theorem ggX7_recut_X7_record : GoodIn wsX7_recut wsX7_record := goodIn_r _ [9, 10, 11, 1, 20, 21, 22, 23, 24, 25, 26] (by decide +kernel) (by decide +kernel)
set_option maxRecDepth 20000 in
theorem gX7_recut_X7_record : GoodIn wsX7_recut (wsV RX7 103 RX7 yX7_record wsX7_record) := goodIn_app (goodIn_of _ (by decide +kernel)) ggX7_recut_X7_record
set_option maxRecDepth 20000 in
theorem ggX7_recut_X7_engraved : GoodIn wsX7_recut wsX7_engraved := goodIn_r _ [15, 1, 16, 17, 18, 4, 19, 20, 21, 22, 23, 24, 25, 26] (by decide +kernel) (by decide +kernel)
set_option maxRecDepth 20000 in
theorem gX7_recut_X7_engraved : GoodIn wsX7_recut (wsV RX7 81 RX7 yX7_engraved wsX7_engraved) := goodIn_app (goodIn_of _ (by decide +kernel)) ggX7_recut_X7_engraved
theorem dX7_recut_0 : decode cX7_recut 0 = .ok (.iload_n 1, 1) := by decide +kernel
theorem dX7_recut_1 : decode cX7_recut 1 = .ok (.sipush 300, 3) := by decide +kernel
theorem dX7_recut_4 : decode cX7_recut 4 = .ok (.sipush 6000, 3) := by decide +kernel
theorem dX7_recut_7 : decode cX7_recut 7 = .ok (.invokestatic 27, 3) := by decide +kernel
theorem dX7_recut_10 : decode cX7_recut 10 = .ok (.ifCond .eq 15, 3) := by decide +kernel
theorem dX7_recut_13 : decode cX7_recut 13 = .ok (.iload_n 2, 1) := by decide +kernel
theorem dX7_recut_14 : decode cX7_recut 14 = .ok (.bipush 100, 2) := by decide +kernel
theorem dX7_recut_16 : decode cX7_recut 16 = .ok (.sipush 3000, 3) := by decide +kernel
theorem dX7_recut_19 : decode cX7_recut 19 = .ok (.invokestatic 27, 3) := by decide +kernel
theorem dX7_recut_22 : decode cX7_recut 22 = .ok (.ifCond .ne 7, 3) := by decide +kernel
theorem dX7_recut_25 : decode cX7_recut 25 = .ok (.sipush (-1002), 3) := by decide +kernel
theorem dX7_recut_28 : decode cX7_recut 28 = .ok (.ireturn, 1) := by decide +kernel
theorem dX7_recut_29 : decode cX7_recut 29 = .ok (.aload_n 0, 1) := by decide +kernel
theorem dX7_recut_30 : decode cX7_recut 30 = .ok (.invokevirtual 103, 3) := by decide +kernel
theorem dX7_recut_33 : decode cX7_recut 33 = .ok (.aload_n 0, 1) := by decide +kernel
theorem dX7_recut_34 : decode cX7_recut 34 = .ok (.invokevirtual 81, 3) := by decide +kernel
theorem dX7_recut_37 : decode cX7_recut 37 = .ok (.istore_n 3, 1) := by decide +kernel
theorem dX7_recut_38 : decode cX7_recut 38 = .ok (.aload_n 0, 1) := by decide +kernel
theorem dX7_recut_39 : decode cX7_recut 39 = .ok (.getfield 7, 3) := by decide +kernel
theorem dX7_recut_42 : decode cX7_recut 42 = .ok (.iconst 0, 1) := by decide +kernel
theorem dX7_recut_43 : decode cX7_recut 43 = .ok (.iload_n 1, 1) := by decide +kernel
theorem dX7_recut_44 : decode cX7_recut 44 = .ok (.iastore, 1) := by decide +kernel
theorem dX7_recut_45 : decode cX7_recut 45 = .ok (.aload_n 0, 1) := by decide +kernel
theorem dX7_recut_46 : decode cX7_recut 46 = .ok (.getfield 7, 3) := by decide +kernel
theorem dX7_recut_49 : decode cX7_recut 49 = .ok (.iconst 1, 1) := by decide +kernel
theorem dX7_recut_50 : decode cX7_recut 50 = .ok (.iload_n 2, 1) := by decide +kernel
theorem dX7_recut_51 : decode cX7_recut 51 = .ok (.iastore, 1) := by decide +kernel
theorem dX7_recut_52 : decode cX7_recut 52 = .ok (.iconst 0, 1) := by decide +kernel
theorem dX7_recut_53 : decode cX7_recut 53 = .ok (.istore 4, 2) := by decide +kernel
theorem dX7_recut_55 : decode cX7_recut 55 = .ok (.iload 4, 2) := by decide +kernel
theorem dX7_recut_57 : decode cX7_recut 57 = .ok (.aload_n 0, 1) := by decide +kernel
theorem dX7_recut_58 : decode cX7_recut 58 = .ok (.getfield 7, 3) := by decide +kernel
theorem dX7_recut_61 : decode cX7_recut 61 = .ok (.iconst 4, 1) := by decide +kernel
theorem dX7_recut_62 : decode cX7_recut 62 = .ok (.iaload, 1) := by decide +kernel
theorem dX7_recut_63 : decode cX7_recut 63 = .ok (.if_icmp .ge 25, 3) := by decide +kernel
theorem dX7_recut_66 : decode cX7_recut 66 = .ok (.aload_n 0, 1) := by decide +kernel
theorem dX7_recut_67 : decode cX7_recut 67 = .ok (.getfield 7, 3) := by decide +kernel
theorem dX7_recut_70 : decode cX7_recut 70 = .ok (.bipush 57, 2) := by decide +kernel
theorem dX7_recut_72 : decode cX7_recut 72 = .ok (.bipush 18, 2) := by decide +kernel
theorem dX7_recut_74 : decode cX7_recut 74 = .ok (.iload 4, 2) := by decide +kernel
theorem dX7_recut_76 : decode cX7_recut 76 = .ok (.imul, 1) := by decide +kernel
theorem dX7_recut_77 : decode cX7_recut 77 = .ok (.iadd, 1) := by decide +kernel
theorem dX7_recut_78 : decode cX7_recut 78 = .ok (.iconst 1, 1) := by decide +kernel
theorem dX7_recut_79 : decode cX7_recut 79 = .ok (.iadd, 1) := by decide +kernel
theorem dX7_recut_80 : decode cX7_recut 80 = .ok (.iconst 0, 1) := by decide +kernel
theorem dX7_recut_81 : decode cX7_recut 81 = .ok (.iastore, 1) := by decide +kernel
theorem dX7_recut_82 : decode cX7_recut 82 = .ok (.iinc 4 1, 3) := by decide +kernel
theorem dX7_recut_85 : decode cX7_recut 85 = .ok (.goto (-30), 3) := by decide +kernel
theorem dX7_recut_88 : decode cX7_recut 88 = .ok (.aload_n 0, 1) := by decide +kernel
theorem dX7_recut_89 : decode cX7_recut 89 = .ok (.getfield 7, 3) := by decide +kernel
theorem dX7_recut_92 : decode cX7_recut 92 = .ok (.iconst 5, 1) := by decide +kernel
theorem dX7_recut_93 : decode cX7_recut 93 = .ok (.iconst 0, 1) := by decide +kernel
theorem dX7_recut_94 : decode cX7_recut 94 = .ok (.iastore, 1) := by decide +kernel
theorem dX7_recut_95 : decode cX7_recut 95 = .ok (.aload_n 0, 1) := by decide +kernel
theorem dX7_recut_96 : decode cX7_recut 96 = .ok (.getfield 7, 3) := by decide +kernel
theorem dX7_recut_99 : decode cX7_recut 99 = .ok (.bipush 6, 2) := by decide +kernel
theorem dX7_recut_101 : decode cX7_recut 101 = .ok (.dup2, 1) := by decide +kernel
theorem dX7_recut_102 : decode cX7_recut 102 = .ok (.iaload, 1) := by decide +kernel
theorem dX7_recut_103 : decode cX7_recut 103 = .ok (.iconst 1, 1) := by decide +kernel
theorem dX7_recut_104 : decode cX7_recut 104 = .ok (.iadd, 1) := by decide +kernel
theorem dX7_recut_105 : decode cX7_recut 105 = .ok (.iastore, 1) := by decide +kernel
theorem dX7_recut_106 : decode cX7_recut 106 = .ok (.aload_n 0, 1) := by decide +kernel
theorem dX7_recut_107 : decode cX7_recut 107 = .ok (.getfield 7, 3) := by decide +kernel
theorem dX7_recut_110 : decode cX7_recut 110 = .ok (.bipush 7, 2) := by decide +kernel
theorem dX7_recut_112 : decode cX7_recut 112 = .ok (.dup2, 1) := by decide +kernel
theorem dX7_recut_113 : decode cX7_recut 113 = .ok (.iaload, 1) := by decide +kernel
theorem dX7_recut_114 : decode cX7_recut 114 = .ok (.iload_n 3, 1) := by decide +kernel
theorem dX7_recut_115 : decode cX7_recut 115 = .ok (.iadd, 1) := by decide +kernel
theorem dX7_recut_116 : decode cX7_recut 116 = .ok (.iastore, 1) := by decide +kernel
theorem dX7_recut_117 : decode cX7_recut 117 = .ok (.iload_n 3, 1) := by decide +kernel
theorem dX7_recut_118 : decode cX7_recut 118 = .ok (.ireturn, 1) := by decide +kernel
set_option maxRecDepth 20000 in
theorem ggX7_sets_X7_engraved : GoodIn wsX7_sets wsX7_engraved := goodIn_r _ [6, 1, 7, 8, 9, 5, 10, 17, 18, 19, 20, 21, 22, 23] (by decide +kernel) (by decide +kernel)
set_option maxRecDepth 20000 in
theorem gX7_sets_X7_engraved : GoodIn wsX7_sets (wsV RX7 81 RX7 yX7_engraved wsX7_engraved) := goodIn_app (goodIn_of _ (by decide +kernel)) ggX7_sets_X7_engraved
set_option maxRecDepth 20000 in
theorem ggX7_sets_X7_record : GoodIn wsX7_sets wsX7_record := goodIn_r _ [14, 15, 16, 1, 17, 18, 19, 20, 21, 22, 23] (by decide +kernel) (by decide +kernel)
set_option maxRecDepth 20000 in
theorem gX7_sets_X7_record : GoodIn wsX7_sets (wsV RX7 103 RX7 yX7_record wsX7_record) := goodIn_app (goodIn_of _ (by decide +kernel)) ggX7_sets_X7_record
theorem dX7_sets_0 : decode cX7_sets 0 = .ok (.aload_n 0, 1) := by decide +kernel
theorem dX7_sets_1 : decode cX7_sets 1 = .ok (.invokevirtual 81, 3) := by decide +kernel
theorem dX7_sets_4 : decode cX7_sets 4 = .ok (.ifCond .le 7, 3) := by decide +kernel
theorem dX7_sets_7 : decode cX7_sets 7 = .ok (.sipush (-1004), 3) := by decide +kernel
theorem dX7_sets_10 : decode cX7_sets 10 = .ok (.ireturn, 1) := by decide +kernel
theorem dX7_sets_11 : decode cX7_sets 11 = .ok (.aload_n 0, 1) := by decide +kernel
theorem dX7_sets_12 : decode cX7_sets 12 = .ok (.getfield 7, 3) := by decide +kernel
theorem dX7_sets_15 : decode cX7_sets 15 = .ok (.iload_n 1, 1) := by decide +kernel
theorem dX7_sets_16 : decode cX7_sets 16 = .ok (.iaload, 1) := by decide +kernel
theorem dX7_sets_17 : decode cX7_sets 17 = .ok (.istore_n 3, 1) := by decide +kernel
theorem dX7_sets_18 : decode cX7_sets 18 = .ok (.iload_n 3, 1) := by decide +kernel
theorem dX7_sets_19 : decode cX7_sets 19 = .ok (.iload_n 2, 1) := by decide +kernel
theorem dX7_sets_20 : decode cX7_sets 20 = .ok (.if_icmp .ne 7, 3) := by decide +kernel
theorem dX7_sets_23 : decode cX7_sets 23 = .ok (.sipush (-1005), 3) := by decide +kernel
theorem dX7_sets_26 : decode cX7_sets 26 = .ok (.ireturn, 1) := by decide +kernel
theorem dX7_sets_27 : decode cX7_sets 27 = .ok (.aload_n 0, 1) := by decide +kernel
theorem dX7_sets_28 : decode cX7_sets 28 = .ok (.invokevirtual 103, 3) := by decide +kernel
theorem dX7_sets_31 : decode cX7_sets 31 = .ok (.aload_n 0, 1) := by decide +kernel
theorem dX7_sets_32 : decode cX7_sets 32 = .ok (.getfield 7, 3) := by decide +kernel
theorem dX7_sets_35 : decode cX7_sets 35 = .ok (.iload_n 1, 1) := by decide +kernel
theorem dX7_sets_36 : decode cX7_sets 36 = .ok (.iload_n 2, 1) := by decide +kernel
theorem dX7_sets_37 : decode cX7_sets 37 = .ok (.iastore, 1) := by decide +kernel
theorem dX7_sets_38 : decode cX7_sets 38 = .ok (.iload_n 3, 1) := by decide +kernel
theorem dX7_sets_39 : decode cX7_sets 39 = .ok (.ireturn, 1) := by decide +kernel
set_option maxRecDepth 20000 in
theorem ggX7_setMargin_X7_in : GoodIn wsX7_setMargin wsX7_in := goodIn_r _ [4] (by decide +kernel) (by decide +kernel)
set_option maxRecDepth 20000 in
theorem gX7_setMargin_X7_in : GoodIn wsX7_setMargin (va_wsS RX7 27 yX7_in wsX7_in) := goodIn_app (goodIn_of _ (by decide +kernel)) ggX7_setMargin_X7_in
set_option maxRecDepth 20000 in
theorem ggX7_setMargin_X7_sets : GoodIn wsX7_setMargin wsX7_sets := goodIn_r _ [8, 9, 10, 11, 12, 3, 13, 14, 15, 16, 17, 18, 19, 20, 21, 22, 23, 24, 25, 26, 27, 28, 29, 30] (by decide +kernel) (by decide +kernel)
set_option maxRecDepth 20000 in
theorem gX7_setMargin_X7_sets : GoodIn wsX7_setMargin (wsV RX7 106 RX7 yX7_sets wsX7_sets) := goodIn_app (goodIn_of _ (by decide +kernel)) ggX7_setMargin_X7_sets
theorem dX7_setMargin_0 : decode cX7_setMargin 0 = .ok (.iload_n 1, 1) := by decide +kernel
theorem dX7_setMargin_1 : decode cX7_setMargin 1 = .ok (.iconst 0, 1) := by decide +kernel
theorem dX7_setMargin_2 : decode cX7_setMargin 2 = .ok (.bipush 100, 2) := by decide +kernel
theorem dX7_setMargin_4 : decode cX7_setMargin 4 = .ok (.invokestatic 27, 3) := by decide +kernel
theorem dX7_setMargin_7 : decode cX7_setMargin 7 = .ok (.ifCond .eq 12, 3) := by decide +kernel
theorem dX7_setMargin_10 : decode cX7_setMargin 10 = .ok (.aload_n 0, 1) := by decide +kernel
theorem dX7_setMargin_11 : decode cX7_setMargin 11 = .ok (.iconst 2, 1) := by decide +kernel
theorem dX7_setMargin_12 : decode cX7_setMargin 12 = .ok (.iload_n 1, 1) := by decide +kernel
theorem dX7_setMargin_13 : decode cX7_setMargin 13 = .ok (.invokevirtual 106, 3) := by decide +kernel
theorem dX7_setMargin_16 : decode cX7_setMargin 16 = .ok (.goto 6, 3) := by decide +kernel
theorem dX7_setMargin_19 : decode cX7_setMargin 19 = .ok (.sipush (-1002), 3) := by decide +kernel
theorem dX7_setMargin_22 : decode cX7_setMargin 22 = .ok (.ireturn, 1) := by decide +kernel
set_option maxRecDepth 20000 in
theorem ggX7_setColumns_X7_in : GoodIn wsX7_setColumns wsX7_in := goodIn_r _ [4] (by decide +kernel) (by decide +kernel)
set_option maxRecDepth 20000 in
theorem gX7_setColumns_X7_in : GoodIn wsX7_setColumns (va_wsS RX7 27 yX7_in wsX7_in) := goodIn_app (goodIn_of _ (by decide +kernel)) ggX7_setColumns_X7_in
set_option maxRecDepth 20000 in
theorem ggX7_setColumns_X7_sets : GoodIn wsX7_setColumns wsX7_sets := goodIn_r _ [8, 9, 10, 11, 12, 3, 13, 14, 15, 16, 17, 18, 19, 20, 21, 22, 23, 24, 25, 26, 27, 28, 29, 30] (by decide +kernel) (by decide +kernel)
set_option maxRecDepth 20000 in
theorem gX7_setColumns_X7_sets : GoodIn wsX7_setColumns (wsV RX7 106 RX7 yX7_sets wsX7_sets) := goodIn_app (goodIn_of _ (by decide +kernel)) ggX7_setColumns_X7_sets
theorem dX7_setColumns_0 : decode cX7_setColumns 0 = .ok (.iload_n 1, 1) := by decide +kernel
theorem dX7_setColumns_1 : decode cX7_setColumns 1 = .ok (.iconst 1, 1) := by decide +kernel
theorem dX7_setColumns_2 : decode cX7_setColumns 2 = .ok (.iconst 3, 1) := by decide +kernel
theorem dX7_setColumns_3 : decode cX7_setColumns 3 = .ok (.invokestatic 27, 3) := by decide +kernel
theorem dX7_setColumns_6 : decode cX7_setColumns 6 = .ok (.ifCond .eq 12, 3) := by decide +kernel
theorem dX7_setColumns_9 : decode cX7_setColumns 9 = .ok (.aload_n 0, 1) := by decide +kernel
theorem dX7_setColumns_10 : decode cX7_setColumns 10 = .ok (.iconst 3, 1) := by decide +kernel
theorem dX7_setColumns_11 : decode cX7_setColumns 11 = .ok (.iload_n 1, 1) := by decide +kernel
theorem dX7_setColumns_12 : decode cX7_setColumns 12 = .ok (.invokevirtual 106, 3) := by decide +kernel
theorem dX7_setColumns_15 : decode cX7_setColumns 15 = .ok (.goto 6, 3) := by decide +kernel
theorem dX7_setColumns_18 : decode cX7_setColumns 18 = .ok (.sipush (-1002), 3) := by decide +kernel
theorem dX7_setColumns_21 : decode cX7_setColumns 21 = .ok (.ireturn, 1) := by decide +kernel
set_option maxRecDepth 20000 in
theorem ggX7_isCut_X7_of : GoodIn wsX7_isCut wsX7_of := goodIn_r _ [6, 1, 15, 16, 17, 18, 19, 20, 21] (by decide +kernel) (by decide +kernel)
set_option maxRecDepth 20000 in
theorem gX7_isCut_X7_of : GoodIn wsX7_isCut (wsV RX7 46 RX7 yX7_of wsX7_of) := goodIn_app (goodIn_of _ (by decide +kernel)) ggX7_isCut_X7_of
set_option maxRecDepth 20000 in
theorem ggX7_isCut_X7_isEngraved : GoodIn wsX7_isCut wsX7_isEngraved := goodIn_r _ [10, 2, 3, 4, 5, 6, 1, 15, 16, 17, 18, 19, 20, 21] (by decide +kernel) (by decide +kernel)
set_option maxRecDepth 20000 in
theorem gX7_isCut_X7_isEngraved : GoodIn wsX7_isCut (wsV RX7 109 RX7 yX7_isEngraved wsX7_isEngraved) := goodIn_app (goodIn_of _ (by decide +kernel)) ggX7_isCut_X7_isEngraved
set_option maxRecDepth 20000 in
theorem ggX7_isCut_X7_signOf : GoodIn wsX7_isCut wsX7_signOf := goodIn_r _ [14, 2, 3, 4, 5, 6, 1, 15, 16, 17, 18, 19, 20, 21] (by decide +kernel) (by decide +kernel)
set_option maxRecDepth 20000 in
theorem gX7_isCut_X7_signOf : GoodIn wsX7_isCut (wsV RX7 49 RX7 yX7_signOf wsX7_signOf) := goodIn_app (goodIn_of _ (by decide +kernel)) ggX7_isCut_X7_signOf
theorem dX7_isCut_0 : decode cX7_isCut 0 = .ok (.iconst 0, 1) := by decide +kernel
theorem dX7_isCut_1 : decode cX7_isCut 1 = .ok (.istore_n 3, 1) := by decide +kernel
theorem dX7_isCut_2 : decode cX7_isCut 2 = .ok (.iload_n 3, 1) := by decide +kernel
theorem dX7_isCut_3 : decode cX7_isCut 3 = .ok (.aload_n 0, 1) := by decide +kernel
theorem dX7_isCut_4 : decode cX7_isCut 4 = .ok (.getfield 7, 3) := by decide +kernel
theorem dX7_isCut_7 : decode cX7_isCut 7 = .ok (.iconst 4, 1) := by decide +kernel
theorem dX7_isCut_8 : decode cX7_isCut 8 = .ok (.iaload, 1) := by decide +kernel
theorem dX7_isCut_9 : decode cX7_isCut 9 = .ok (.if_icmp .ge 65, 3) := by decide +kernel
theorem dX7_isCut_12 : decode cX7_isCut 12 = .ok (.iconst 0, 1) := by decide +kernel
theorem dX7_isCut_13 : decode cX7_isCut 13 = .ok (.istore 4, 2) := by decide +kernel
theorem dX7_isCut_15 : decode cX7_isCut 15 = .ok (.iload 4, 2) := by decide +kernel
theorem dX7_isCut_17 : decode cX7_isCut 17 = .ok (.iconst 1, 1) := by decide +kernel
theorem dX7_isCut_18 : decode cX7_isCut 18 = .ok (.iadd, 1) := by decide +kernel
theorem dX7_isCut_19 : decode cX7_isCut 19 = .ok (.aload_n 0, 1) := by decide +kernel
theorem dX7_isCut_20 : decode cX7_isCut 20 = .ok (.iload_n 3, 1) := by decide +kernel
theorem dX7_isCut_21 : decode cX7_isCut 21 = .ok (.iconst 0, 1) := by decide +kernel
theorem dX7_isCut_22 : decode cX7_isCut 22 = .ok (.invokevirtual 46, 3) := by decide +kernel
theorem dX7_isCut_25 : decode cX7_isCut 25 = .ok (.if_icmp .ge 43, 3) := by decide +kernel
theorem dX7_isCut_28 : decode cX7_isCut 28 = .ok (.aload_n 0, 1) := by decide +kernel
theorem dX7_isCut_29 : decode cX7_isCut 29 = .ok (.iload_n 3, 1) := by decide +kernel
theorem dX7_isCut_30 : decode cX7_isCut 30 = .ok (.invokevirtual 109, 3) := by decide +kernel
theorem dX7_isCut_33 : decode cX7_isCut 33 = .ok (.ifCond .eq 35, 3) := by decide +kernel
theorem dX7_isCut_36 : decode cX7_isCut 36 = .ok (.aload_n 0, 1) := by decide +kernel
theorem dX7_isCut_37 : decode cX7_isCut 37 = .ok (.iload_n 3, 1) := by decide +kernel
theorem dX7_isCut_38 : decode cX7_isCut 38 = .ok (.iload 4, 2) := by decide +kernel
theorem dX7_isCut_40 : decode cX7_isCut 40 = .ok (.invokevirtual 49, 3) := by decide +kernel
theorem dX7_isCut_43 : decode cX7_isCut 43 = .ok (.iload_n 1, 1) := by decide +kernel
theorem dX7_isCut_44 : decode cX7_isCut 44 = .ok (.if_icmp .ne 18, 3) := by decide +kernel
theorem dX7_isCut_47 : decode cX7_isCut 47 = .ok (.aload_n 0, 1) := by decide +kernel
theorem dX7_isCut_48 : decode cX7_isCut 48 = .ok (.iload_n 3, 1) := by decide +kernel
theorem dX7_isCut_49 : decode cX7_isCut 49 = .ok (.iload 4, 2) := by decide +kernel
theorem dX7_isCut_51 : decode cX7_isCut 51 = .ok (.iconst 1, 1) := by decide +kernel
theorem dX7_isCut_52 : decode cX7_isCut 52 = .ok (.iadd, 1) := by decide +kernel
theorem dX7_isCut_53 : decode cX7_isCut 53 = .ok (.invokevirtual 49, 3) := by decide +kernel
theorem dX7_isCut_56 : decode cX7_isCut 56 = .ok (.iload_n 2, 1) := by decide +kernel
theorem dX7_isCut_57 : decode cX7_isCut 57 = .ok (.if_icmp .ne 5, 3) := by decide +kernel
theorem dX7_isCut_60 : decode cX7_isCut 60 = .ok (.iconst 1, 1) := by decide +kernel
theorem dX7_isCut_61 : decode cX7_isCut 61 = .ok (.ireturn, 1) := by decide +kernel
theorem dX7_isCut_62 : decode cX7_isCut 62 = .ok (.iinc 4 1, 3) := by decide +kernel
theorem dX7_isCut_65 : decode cX7_isCut 65 = .ok (.goto (-50), 3) := by decide +kernel
theorem dX7_isCut_68 : decode cX7_isCut 68 = .ok (.iinc 3 1, 3) := by decide +kernel
theorem dX7_isCut_71 : decode cX7_isCut 71 = .ok (.goto (-69), 3) := by decide +kernel
theorem dX7_isCut_74 : decode cX7_isCut 74 = .ok (.iconst 0, 1) := by decide +kernel
theorem dX7_isCut_75 : decode cX7_isCut 75 = .ok (.ireturn, 1) := by decide +kernel
set_option maxRecDepth 20000 in
theorem ggX7_areSigns_X7_isLetter : GoodIn wsX7_areSigns wsX7_isLetter := goodIn_r _ [4, 5, 6, 3, 7] (by decide +kernel) (by decide +kernel)
set_option maxRecDepth 20000 in
theorem gX7_areSigns_X7_isLetter : GoodIn wsX7_areSigns (va_wsS RX7 31 yX7_isLetter wsX7_isLetter) := goodIn_app (goodIn_of _ (by decide +kernel)) ggX7_areSigns_X7_isLetter
set_option maxRecDepth 20000 in
theorem ggX7_areSigns_X7_isPoint : GoodIn wsX7_areSigns wsX7_isPoint := goodIn_r _ [10] (by decide +kernel) (by decide +kernel)
set_option maxRecDepth 20000 in
theorem gX7_areSigns_X7_isPoint : GoodIn wsX7_areSigns (va_wsS RX7 112 yX7_isPoint wsX7_isPoint) := goodIn_app (goodIn_of _ (by decide +kernel)) ggX7_areSigns_X7_isPoint
theorem dX7_areSigns_0 : decode cX7_areSigns 0 = .ok (.iload_n 0, 1) := by decide +kernel
theorem dX7_areSigns_1 : decode cX7_areSigns 1 = .ok (.invokestatic 31, 3) := by decide +kernel
theorem dX7_areSigns_4 : decode cX7_areSigns 4 = .ok (.ifCond .ne 10, 3) := by decide +kernel
theorem dX7_areSigns_7 : decode cX7_areSigns 7 = .ok (.iload_n 0, 1) := by decide +kernel
theorem dX7_areSigns_8 : decode cX7_areSigns 8 = .ok (.invokestatic 112, 3) := by decide +kernel
theorem dX7_areSigns_11 : decode cX7_areSigns 11 = .ok (.ifCond .eq 21, 3) := by decide +kernel
theorem dX7_areSigns_14 : decode cX7_areSigns 14 = .ok (.iload_n 1, 1) := by decide +kernel
theorem dX7_areSigns_15 : decode cX7_areSigns 15 = .ok (.invokestatic 31, 3) := by decide +kernel
theorem dX7_areSigns_18 : decode cX7_areSigns 18 = .ok (.ifCond .ne 10, 3) := by decide +kernel
theorem dX7_areSigns_21 : decode cX7_areSigns 21 = .ok (.iload_n 1, 1) := by decide +kernel
theorem dX7_areSigns_22 : decode cX7_areSigns 22 = .ok (.invokestatic 112, 3) := by decide +kernel
theorem dX7_areSigns_25 : decode cX7_areSigns 25 = .ok (.ifCond .eq 7, 3) := by decide +kernel
theorem dX7_areSigns_28 : decode cX7_areSigns 28 = .ok (.iconst 1, 1) := by decide +kernel
theorem dX7_areSigns_29 : decode cX7_areSigns 29 = .ok (.goto 4, 3) := by decide +kernel
theorem dX7_areSigns_32 : decode cX7_areSigns 32 = .ok (.iconst 0, 1) := by decide +kernel
theorem dX7_areSigns_33 : decode cX7_areSigns 33 = .ok (.ireturn, 1) := by decide +kernel
set_option maxRecDepth 20000 in
theorem ggX7_adjust_X7_areSigns : GoodIn wsX7_adjust wsX7_areSigns := goodIn_r _ [5, 6, 7, 4, 8, 9, 10, 11, 12, 13, 14] (by decide +kernel) (by decide +kernel)
set_option maxRecDepth 20000 in
theorem gX7_adjust_X7_areSigns : GoodIn wsX7_adjust (va_wsS RX7 115 yX7_areSigns wsX7_areSigns) := goodIn_app (goodIn_of _ (by decide +kernel)) ggX7_adjust_X7_areSigns
set_option maxRecDepth 20000 in
theorem ggX7_adjust_X7_in : GoodIn wsX7_adjust wsX7_in := goodIn_r _ [11] (by decide +kernel) (by decide +kernel)
set_option maxRecDepth 20000 in
theorem gX7_adjust_X7_in : GoodIn wsX7_adjust (va_wsS RX7 27 yX7_in wsX7_in) := goodIn_app (goodIn_of _ (by decide +kernel)) ggX7_adjust_X7_in
set_option maxRecDepth 20000 in
theorem ggX7_adjust_X7_isCut : GoodIn wsX7_adjust wsX7_isCut := goodIn_r _ [18, 1, 19, 20, 21, 4, 22, 23, 24, 25, 26, 27, 28, 29, 30, 45, 46, 47, 48, 49, 50, 51] (by decide +kernel) (by decide +kernel)
set_option maxRecDepth 20000 in
theorem gX7_adjust_X7_isCut : GoodIn wsX7_adjust (wsV RX7 119 RX7 yX7_isCut wsX7_isCut) := goodIn_app (goodIn_of _ (by decide +kernel)) ggX7_adjust_X7_isCut
set_option maxRecDepth 20000 in
theorem ggX7_adjust_X7_adjusted : GoodIn wsX7_adjust wsX7_adjusted := goodIn_r _ [34, 1, 35, 36, 37, 4, 38, 45, 46, 47, 48, 49, 50, 51] (by decide +kernel) (by decide +kernel)
set_option maxRecDepth 20000 in
theorem gX7_adjust_X7_adjusted : GoodIn wsX7_adjust (wsV RX7 43 RX7 yX7_adjusted wsX7_adjusted) := goodIn_app (goodIn_of _ (by decide +kernel)) ggX7_adjust_X7_adjusted
set_option maxRecDepth 20000 in
theorem ggX7_adjust_X7_record : GoodIn wsX7_adjust wsX7_record := goodIn_r _ [42, 43, 44, 1, 45, 46, 47, 48, 49, 50, 51] (by decide +kernel) (by decide +kernel)
set_option maxRecDepth 20000 in
theorem gX7_adjust_X7_record : GoodIn wsX7_adjust (wsV RX7 103 RX7 yX7_record wsX7_record) := goodIn_app (goodIn_of _ (by decide +kernel)) ggX7_adjust_X7_record
set_option maxRecDepth 20000 in
theorem ggX7_adjust_X7_placeOf : GoodIn wsX7_adjust wsX7_placeOf := goodIn_r _ [38, 1, 45, 46, 47, 48, 49, 50, 51] (by decide +kernel) (by decide +kernel)
set_option maxRecDepth 20000 in
theorem gX7_adjust_X7_placeOf : GoodIn wsX7_adjust (wsV RX7 35 RX7 yX7_placeOf wsX7_placeOf) := goodIn_app (goodIn_of _ (by decide +kernel)) ggX7_adjust_X7_placeOf
theorem dX7_adjust_0 : decode cX7_adjust 0 = .ok (.iload_n 1, 1) := by decide +kernel
theorem dX7_adjust_1 : decode cX7_adjust 1 = .ok (.iload_n 2, 1) := by decide +kernel
theorem dX7_adjust_2 : decode cX7_adjust 2 = .ok (.invokestatic 115, 3) := by decide +kernel
theorem dX7_adjust_5 : decode cX7_adjust 5 = .ok (.ifCond .ne 7, 3) := by decide +kernel
theorem dX7_adjust_8 : decode cX7_adjust 8 = .ok (.sipush (-1001), 3) := by decide +kernel
theorem dX7_adjust_11 : decode cX7_adjust 11 = .ok (.ireturn, 1) := by decide +kernel
theorem dX7_adjust_12 : decode cX7_adjust 12 = .ok (.iload_n 3, 1) := by decide +kernel
theorem dX7_adjust_13 : decode cX7_adjust 13 = .ok (.bipush (-3), 2) := by decide +kernel
theorem dX7_adjust_15 : decode cX7_adjust 15 = .ok (.iconst 3, 1) := by decide +kernel
theorem dX7_adjust_16 : decode cX7_adjust 16 = .ok (.invokestatic 27, 3) := by decide +kernel
theorem dX7_adjust_19 : decode cX7_adjust 19 = .ok (.ifCond .ne 7, 3) := by decide +kernel
theorem dX7_adjust_22 : decode cX7_adjust 22 = .ok (.sipush (-1002), 3) := by decide +kernel
theorem dX7_adjust_25 : decode cX7_adjust 25 = .ok (.ireturn, 1) := by decide +kernel
theorem dX7_adjust_26 : decode cX7_adjust 26 = .ok (.aload_n 0, 1) := by decide +kernel
theorem dX7_adjust_27 : decode cX7_adjust 27 = .ok (.iload_n 1, 1) := by decide +kernel
theorem dX7_adjust_28 : decode cX7_adjust 28 = .ok (.iload_n 2, 1) := by decide +kernel
theorem dX7_adjust_29 : decode cX7_adjust 29 = .ok (.invokevirtual 119, 3) := by decide +kernel
theorem dX7_adjust_32 : decode cX7_adjust 32 = .ok (.ifCond .eq 7, 3) := by decide +kernel
theorem dX7_adjust_35 : decode cX7_adjust 35 = .ok (.sipush (-1004), 3) := by decide +kernel
theorem dX7_adjust_38 : decode cX7_adjust 38 = .ok (.ireturn, 1) := by decide +kernel
theorem dX7_adjust_39 : decode cX7_adjust 39 = .ok (.aload_n 0, 1) := by decide +kernel
theorem dX7_adjust_40 : decode cX7_adjust 40 = .ok (.iload_n 1, 1) := by decide +kernel
theorem dX7_adjust_41 : decode cX7_adjust 41 = .ok (.iload_n 2, 1) := by decide +kernel
theorem dX7_adjust_42 : decode cX7_adjust 42 = .ok (.invokevirtual 43, 3) := by decide +kernel
theorem dX7_adjust_45 : decode cX7_adjust 45 = .ok (.istore 4, 2) := by decide +kernel
theorem dX7_adjust_47 : decode cX7_adjust 47 = .ok (.iload 4, 2) := by decide +kernel
theorem dX7_adjust_49 : decode cX7_adjust 49 = .ok (.iload_n 3, 1) := by decide +kernel
theorem dX7_adjust_50 : decode cX7_adjust 50 = .ok (.if_icmp .ne 7, 3) := by decide +kernel
theorem dX7_adjust_53 : decode cX7_adjust 53 = .ok (.sipush (-1005), 3) := by decide +kernel
theorem dX7_adjust_56 : decode cX7_adjust 56 = .ok (.ireturn, 1) := by decide +kernel
theorem dX7_adjust_57 : decode cX7_adjust 57 = .ok (.iload 4, 2) := by decide +kernel
theorem dX7_adjust_59 : decode cX7_adjust 59 = .ok (.ifCond .ne 19, 3) := by decide +kernel
theorem dX7_adjust_62 : decode cX7_adjust 62 = .ok (.aload_n 0, 1) := by decide +kernel
theorem dX7_adjust_63 : decode cX7_adjust 63 = .ok (.getfield 7, 3) := by decide +kernel
theorem dX7_adjust_66 : decode cX7_adjust 66 = .ok (.bipush 8, 2) := by decide +kernel
theorem dX7_adjust_68 : decode cX7_adjust 68 = .ok (.iaload, 1) := by decide +kernel
theorem dX7_adjust_69 : decode cX7_adjust 69 = .ok (.bipush 16, 2) := by decide +kernel
theorem dX7_adjust_71 : decode cX7_adjust 71 = .ok (.if_icmp .ne 7, 3) := by decide +kernel
theorem dX7_adjust_74 : decode cX7_adjust 74 = .ok (.sipush (-1003), 3) := by decide +kernel
theorem dX7_adjust_77 : decode cX7_adjust 77 = .ok (.ireturn, 1) := by decide +kernel
theorem dX7_adjust_78 : decode cX7_adjust 78 = .ok (.aload_n 0, 1) := by decide +kernel
theorem dX7_adjust_79 : decode cX7_adjust 79 = .ok (.invokevirtual 103, 3) := by decide +kernel
theorem dX7_adjust_82 : decode cX7_adjust 82 = .ok (.iload 4, 2) := by decide +kernel
theorem dX7_adjust_84 : decode cX7_adjust 84 = .ok (.ifCond .ne 13, 3) := by decide +kernel
theorem dX7_adjust_87 : decode cX7_adjust 87 = .ok (.aload_n 0, 1) := by decide +kernel
theorem dX7_adjust_88 : decode cX7_adjust 88 = .ok (.getfield 7, 3) := by decide +kernel
theorem dX7_adjust_91 : decode cX7_adjust 91 = .ok (.bipush 8, 2) := by decide +kernel
theorem dX7_adjust_93 : decode cX7_adjust 93 = .ok (.iaload, 1) := by decide +kernel
theorem dX7_adjust_94 : decode cX7_adjust 94 = .ok (.goto 9, 3) := by decide +kernel
theorem dX7_adjust_97 : decode cX7_adjust 97 = .ok (.aload_n 0, 1) := by decide +kernel
theorem dX7_adjust_98 : decode cX7_adjust 98 = .ok (.iload_n 1, 1) := by decide +kernel
theorem dX7_adjust_99 : decode cX7_adjust 99 = .ok (.iload_n 2, 1) := by decide +kernel
theorem dX7_adjust_100 : decode cX7_adjust 100 = .ok (.invokevirtual 35, 3) := by decide +kernel
theorem dX7_adjust_103 : decode cX7_adjust 103 = .ok (.istore 5, 2) := by decide +kernel
theorem dX7_adjust_105 : decode cX7_adjust 105 = .ok (.iload_n 3, 1) := by decide +kernel
theorem dX7_adjust_106 : decode cX7_adjust 106 = .ok (.ifCond .ne 65, 3) := by decide +kernel
theorem dX7_adjust_109 : decode cX7_adjust 109 = .ok (.aload_n 0, 1) := by decide +kernel
theorem dX7_adjust_110 : decode cX7_adjust 110 = .ok (.getfield 7, 3) := by decide +kernel
theorem dX7_adjust_113 : decode cX7_adjust 113 = .ok (.bipush 8, 2) := by decide +kernel
theorem dX7_adjust_115 : decode cX7_adjust 115 = .ok (.dup2, 1) := by decide +kernel
theorem dX7_adjust_116 : decode cX7_adjust 116 = .ok (.iaload, 1) := by decide +kernel
theorem dX7_adjust_117 : decode cX7_adjust 117 = .ok (.iconst 1, 1) := by decide +kernel
theorem dX7_adjust_118 : decode cX7_adjust 118 = .ok (.isub, 1) := by decide +kernel
theorem dX7_adjust_119 : decode cX7_adjust 119 = .ok (.iastore, 1) := by decide +kernel
theorem dX7_adjust_120 : decode cX7_adjust 120 = .ok (.bipush 9, 2) := by decide +kernel
theorem dX7_adjust_122 : decode cX7_adjust 122 = .ok (.iconst 3, 1) := by decide +kernel
theorem dX7_adjust_123 : decode cX7_adjust 123 = .ok (.iload 5, 2) := by decide +kernel
theorem dX7_adjust_125 : decode cX7_adjust 125 = .ok (.imul, 1) := by decide +kernel
theorem dX7_adjust_126 : decode cX7_adjust 126 = .ok (.iadd, 1) := by decide +kernel
theorem dX7_adjust_127 : decode cX7_adjust 127 = .ok (.istore 6, 2) := by decide +kernel
theorem dX7_adjust_129 : decode cX7_adjust 129 = .ok (.iload 6, 2) := by decide +kernel
theorem dX7_adjust_131 : decode cX7_adjust 131 = .ok (.bipush 9, 2) := by decide +kernel
theorem dX7_adjust_133 : decode cX7_adjust 133 = .ok (.iconst 3, 1) := by decide +kernel
theorem dX7_adjust_134 : decode cX7_adjust 134 = .ok (.aload_n 0, 1) := by decide +kernel
theorem dX7_adjust_135 : decode cX7_adjust 135 = .ok (.getfield 7, 3) := by decide +kernel
theorem dX7_adjust_138 : decode cX7_adjust 138 = .ok (.bipush 8, 2) := by decide +kernel
theorem dX7_adjust_140 : decode cX7_adjust 140 = .ok (.iaload, 1) := by decide +kernel
theorem dX7_adjust_141 : decode cX7_adjust 141 = .ok (.imul, 1) := by decide +kernel
theorem dX7_adjust_142 : decode cX7_adjust 142 = .ok (.iadd, 1) := by decide +kernel
theorem dX7_adjust_143 : decode cX7_adjust 143 = .ok (.if_icmp .ge 25, 3) := by decide +kernel
theorem dX7_adjust_146 : decode cX7_adjust 146 = .ok (.aload_n 0, 1) := by decide +kernel
theorem dX7_adjust_147 : decode cX7_adjust 147 = .ok (.getfield 7, 3) := by decide +kernel
theorem dX7_adjust_150 : decode cX7_adjust 150 = .ok (.iload 6, 2) := by decide +kernel
theorem dX7_adjust_152 : decode cX7_adjust 152 = .ok (.aload_n 0, 1) := by decide +kernel
theorem dX7_adjust_153 : decode cX7_adjust 153 = .ok (.getfield 7, 3) := by decide +kernel
theorem dX7_adjust_156 : decode cX7_adjust 156 = .ok (.iload 6, 2) := by decide +kernel
theorem dX7_adjust_158 : decode cX7_adjust 158 = .ok (.iconst 3, 1) := by decide +kernel
theorem dX7_adjust_159 : decode cX7_adjust 159 = .ok (.iadd, 1) := by decide +kernel
theorem dX7_adjust_160 : decode cX7_adjust 160 = .ok (.iaload, 1) := by decide +kernel
theorem dX7_adjust_161 : decode cX7_adjust 161 = .ok (.iastore, 1) := by decide +kernel
theorem dX7_adjust_162 : decode cX7_adjust 162 = .ok (.iinc 6 1, 3) := by decide +kernel
theorem dX7_adjust_165 : decode cX7_adjust 165 = .ok (.goto (-36), 3) := by decide +kernel
theorem dX7_adjust_168 : decode cX7_adjust 168 = .ok (.iload 4, 2) := by decide +kernel
theorem dX7_adjust_170 : decode cX7_adjust 170 = .ok (.ireturn, 1) := by decide +kernel
theorem dX7_adjust_171 : decode cX7_adjust 171 = .ok (.aload_n 0, 1) := by decide +kernel
theorem dX7_adjust_172 : decode cX7_adjust 172 = .ok (.getfield 7, 3) := by decide +kernel
theorem dX7_adjust_175 : decode cX7_adjust 175 = .ok (.bipush 8, 2) := by decide +kernel
theorem dX7_adjust_177 : decode cX7_adjust 177 = .ok (.dup2, 1) := by decide +kernel
theorem dX7_adjust_178 : decode cX7_adjust 178 = .ok (.iaload, 1) := by decide +kernel
theorem dX7_adjust_179 : decode cX7_adjust 179 = .ok (.iload 4, 2) := by decide +kernel
theorem dX7_adjust_181 : decode cX7_adjust 181 = .ok (.ifCond .ne 7, 3) := by decide +kernel
theorem dX7_adjust_184 : decode cX7_adjust 184 = .ok (.iconst 1, 1) := by decide +kernel
theorem dX7_adjust_185 : decode cX7_adjust 185 = .ok (.goto 4, 3) := by decide +kernel
theorem dX7_adjust_188 : decode cX7_adjust 188 = .ok (.iconst 0, 1) := by decide +kernel
theorem dX7_adjust_189 : decode cX7_adjust 189 = .ok (.iadd, 1) := by decide +kernel
theorem dX7_adjust_190 : decode cX7_adjust 190 = .ok (.iastore, 1) := by decide +kernel
theorem dX7_adjust_191 : decode cX7_adjust 191 = .ok (.aload_n 0, 1) := by decide +kernel
theorem dX7_adjust_192 : decode cX7_adjust 192 = .ok (.getfield 7, 3) := by decide +kernel
theorem dX7_adjust_195 : decode cX7_adjust 195 = .ok (.bipush 9, 2) := by decide +kernel
theorem dX7_adjust_197 : decode cX7_adjust 197 = .ok (.iconst 3, 1) := by decide +kernel
theorem dX7_adjust_198 : decode cX7_adjust 198 = .ok (.iload 5, 2) := by decide +kernel
theorem dX7_adjust_200 : decode cX7_adjust 200 = .ok (.imul, 1) := by decide +kernel
theorem dX7_adjust_201 : decode cX7_adjust 201 = .ok (.iadd, 1) := by decide +kernel
theorem dX7_adjust_202 : decode cX7_adjust 202 = .ok (.iload_n 1, 1) := by decide +kernel
theorem dX7_adjust_203 : decode cX7_adjust 203 = .ok (.iastore, 1) := by decide +kernel
theorem dX7_adjust_204 : decode cX7_adjust 204 = .ok (.aload_n 0, 1) := by decide +kernel
theorem dX7_adjust_205 : decode cX7_adjust 205 = .ok (.getfield 7, 3) := by decide +kernel
theorem dX7_adjust_208 : decode cX7_adjust 208 = .ok (.bipush 9, 2) := by decide +kernel
theorem dX7_adjust_210 : decode cX7_adjust 210 = .ok (.iconst 3, 1) := by decide +kernel
theorem dX7_adjust_211 : decode cX7_adjust 211 = .ok (.iload 5, 2) := by decide +kernel
theorem dX7_adjust_213 : decode cX7_adjust 213 = .ok (.imul, 1) := by decide +kernel
theorem dX7_adjust_214 : decode cX7_adjust 214 = .ok (.iadd, 1) := by decide +kernel
theorem dX7_adjust_215 : decode cX7_adjust 215 = .ok (.iconst 1, 1) := by decide +kernel
theorem dX7_adjust_216 : decode cX7_adjust 216 = .ok (.iadd, 1) := by decide +kernel
theorem dX7_adjust_217 : decode cX7_adjust 217 = .ok (.iload_n 2, 1) := by decide +kernel
theorem dX7_adjust_218 : decode cX7_adjust 218 = .ok (.iastore, 1) := by decide +kernel
theorem dX7_adjust_219 : decode cX7_adjust 219 = .ok (.aload_n 0, 1) := by decide +kernel
theorem dX7_adjust_220 : decode cX7_adjust 220 = .ok (.getfield 7, 3) := by decide +kernel
theorem dX7_adjust_223 : decode cX7_adjust 223 = .ok (.bipush 9, 2) := by decide +kernel
theorem dX7_adjust_225 : decode cX7_adjust 225 = .ok (.iconst 3, 1) := by decide +kernel
theorem dX7_adjust_226 : decode cX7_adjust 226 = .ok (.iload 5, 2) := by decide +kernel
theorem dX7_adjust_228 : decode cX7_adjust 228 = .ok (.imul, 1) := by decide +kernel
theorem dX7_adjust_229 : decode cX7_adjust 229 = .ok (.iadd, 1) := by decide +kernel
theorem dX7_adjust_230 : decode cX7_adjust 230 = .ok (.iconst 2, 1) := by decide +kernel
theorem dX7_adjust_231 : decode cX7_adjust 231 = .ok (.iadd, 1) := by decide +kernel
theorem dX7_adjust_232 : decode cX7_adjust 232 = .ok (.iload_n 3, 1) := by decide +kernel
theorem dX7_adjust_233 : decode cX7_adjust 233 = .ok (.iastore, 1) := by decide +kernel
theorem dX7_adjust_234 : decode cX7_adjust 234 = .ok (.iload 4, 2) := by decide +kernel
theorem dX7_adjust_236 : decode cX7_adjust 236 = .ok (.ireturn, 1) := by decide +kernel
theorem dX7_type_0 : decode cX7_type 0 = .ok (.aload_n 0, 1) := by decide +kernel
theorem dX7_type_1 : decode cX7_type 1 = .ok (.getfield 122, 3) := by decide +kernel
theorem dX7_type_4 : decode cX7_type 4 = .ok (.bipush 60, 2) := by decide +kernel
theorem dX7_type_6 : decode cX7_type 6 = .ok (.if_icmp .ne 7, 3) := by decide +kernel
theorem dX7_type_9 : decode cX7_type 9 = .ok (.sipush (-1003), 3) := by decide +kernel
theorem dX7_type_12 : decode cX7_type 12 = .ok (.ireturn, 1) := by decide +kernel
theorem dX7_type_13 : decode cX7_type 13 = .ok (.aload_n 0, 1) := by decide +kernel
theorem dX7_type_14 : decode cX7_type 14 = .ok (.getfield 19, 3) := by decide +kernel
theorem dX7_type_17 : decode cX7_type 17 = .ok (.aload_n 0, 1) := by decide +kernel
theorem dX7_type_18 : decode cX7_type 18 = .ok (.getfield 122, 3) := by decide +kernel
theorem dX7_type_21 : decode cX7_type 21 = .ok (.iload_n 1, 1) := by decide +kernel
theorem dX7_type_22 : decode cX7_type 22 = .ok (.castore, 1) := by decide +kernel
theorem dX7_type_23 : decode cX7_type 23 = .ok (.aload_n 0, 1) := by decide +kernel
theorem dX7_type_24 : decode cX7_type 24 = .ok (.dup, 1) := by decide +kernel
theorem dX7_type_25 : decode cX7_type 25 = .ok (.getfield 122, 3) := by decide +kernel
theorem dX7_type_28 : decode cX7_type 28 = .ok (.iconst 1, 1) := by decide +kernel
theorem dX7_type_29 : decode cX7_type 29 = .ok (.iadd, 1) := by decide +kernel
theorem dX7_type_30 : decode cX7_type 30 = .ok (.putfield 122, 3) := by decide +kernel
theorem dX7_type_33 : decode cX7_type 33 = .ok (.aload_n 0, 1) := by decide +kernel
theorem dX7_type_34 : decode cX7_type 34 = .ok (.getfield 122, 3) := by decide +kernel
theorem dX7_type_37 : decode cX7_type 37 = .ok (.ireturn, 1) := by decide +kernel
theorem dX7_clearText_0 : decode cX7_clearText 0 = .ok (.aload_n 0, 1) := by decide +kernel
theorem dX7_clearText_1 : decode cX7_clearText 1 = .ok (.getfield 122, 3) := by decide +kernel
theorem dX7_clearText_4 : decode cX7_clearText 4 = .ok (.istore_n 1, 1) := by decide +kernel
theorem dX7_clearText_5 : decode cX7_clearText 5 = .ok (.aload_n 0, 1) := by decide +kernel
theorem dX7_clearText_6 : decode cX7_clearText 6 = .ok (.iconst 0, 1) := by decide +kernel
theorem dX7_clearText_7 : decode cX7_clearText 7 = .ok (.putfield 122, 3) := by decide +kernel
theorem dX7_clearText_10 : decode cX7_clearText 10 = .ok (.iload_n 1, 1) := by decide +kernel
theorem dX7_clearText_11 : decode cX7_clearText 11 = .ok (.ireturn, 1) := by decide +kernel
set_option maxRecDepth 20000 in
theorem ggX7_faultOf_X7_isLetter : GoodIn wsX7_faultOf wsX7_isLetter := goodIn_r _ [6, 7, 8, 5, 9] (by decide +kernel) (by decide +kernel)
set_option maxRecDepth 20000 in
theorem gX7_faultOf_X7_isLetter : GoodIn wsX7_faultOf (va_wsS RX7 31 yX7_isLetter wsX7_isLetter) := goodIn_app (goodIn_of _ (by decide +kernel)) ggX7_faultOf_X7_isLetter
set_option maxRecDepth 20000 in
theorem ggX7_faultOf_X7_isPoint : GoodIn wsX7_faultOf wsX7_isPoint := goodIn_r _ [12] (by decide +kernel) (by decide +kernel)
set_option maxRecDepth 20000 in
theorem gX7_faultOf_X7_isPoint : GoodIn wsX7_faultOf (va_wsS RX7 112 yX7_isPoint wsX7_isPoint) := goodIn_app (goodIn_of _ (by decide +kernel)) ggX7_faultOf_X7_isPoint
theorem dX7_faultOf_0 : decode cX7_faultOf 0 = .ok (.iconst 0, 1) := by decide +kernel
theorem dX7_faultOf_1 : decode cX7_faultOf 1 = .ok (.istore_n 1, 1) := by decide +kernel
theorem dX7_faultOf_2 : decode cX7_faultOf 2 = .ok (.iconst 1, 1) := by decide +kernel
theorem dX7_faultOf_3 : decode cX7_faultOf 3 = .ok (.istore_n 2, 1) := by decide +kernel
theorem dX7_faultOf_4 : decode cX7_faultOf 4 = .ok (.iconst 0, 1) := by decide +kernel
theorem dX7_faultOf_5 : decode cX7_faultOf 5 = .ok (.istore_n 3, 1) := by decide +kernel
theorem dX7_faultOf_6 : decode cX7_faultOf 6 = .ok (.iload_n 3, 1) := by decide +kernel
theorem dX7_faultOf_7 : decode cX7_faultOf 7 = .ok (.aload_n 0, 1) := by decide +kernel
theorem dX7_faultOf_8 : decode cX7_faultOf 8 = .ok (.getfield 122, 3) := by decide +kernel
theorem dX7_faultOf_11 : decode cX7_faultOf 11 = .ok (.if_icmp .ge 74, 3) := by decide +kernel
theorem dX7_faultOf_14 : decode cX7_faultOf 14 = .ok (.aload_n 0, 1) := by decide +kernel
theorem dX7_faultOf_15 : decode cX7_faultOf 15 = .ok (.getfield 19, 3) := by decide +kernel
theorem dX7_faultOf_18 : decode cX7_faultOf 18 = .ok (.iload_n 3, 1) := by decide +kernel
theorem dX7_faultOf_19 : decode cX7_faultOf 19 = .ok (.caload, 1) := by decide +kernel
theorem dX7_faultOf_20 : decode cX7_faultOf 20 = .ok (.istore 4, 2) := by decide +kernel
theorem dX7_faultOf_22 : decode cX7_faultOf 22 = .ok (.iload 4, 2) := by decide +kernel
theorem dX7_faultOf_24 : decode cX7_faultOf 24 = .ok (.bipush 59, 2) := by decide +kernel
theorem dX7_faultOf_26 : decode cX7_faultOf 26 = .ok (.if_icmp .ne 16, 3) := by decide +kernel
theorem dX7_faultOf_29 : decode cX7_faultOf 29 = .ok (.iload_n 2, 1) := by decide +kernel
theorem dX7_faultOf_30 : decode cX7_faultOf 30 = .ok (.ifCond .eq 5, 3) := by decide +kernel
theorem dX7_faultOf_33 : decode cX7_faultOf 33 = .ok (.iload_n 3, 1) := by decide +kernel
theorem dX7_faultOf_34 : decode cX7_faultOf 34 = .ok (.ireturn, 1) := by decide +kernel
theorem dX7_faultOf_35 : decode cX7_faultOf 35 = .ok (.iconst 0, 1) := by decide +kernel
theorem dX7_faultOf_36 : decode cX7_faultOf 36 = .ok (.istore_n 1, 1) := by decide +kernel
theorem dX7_faultOf_37 : decode cX7_faultOf 37 = .ok (.iconst 1, 1) := by decide +kernel
theorem dX7_faultOf_38 : decode cX7_faultOf 38 = .ok (.istore_n 2, 1) := by decide +kernel
theorem dX7_faultOf_39 : decode cX7_faultOf 39 = .ok (.goto 40, 3) := by decide +kernel
theorem dX7_faultOf_42 : decode cX7_faultOf 42 = .ok (.iload_n 1, 1) := by decide +kernel
theorem dX7_faultOf_43 : decode cX7_faultOf 43 = .ok (.bipush 16, 2) := by decide +kernel
theorem dX7_faultOf_45 : decode cX7_faultOf 45 = .ok (.if_icmp .eq 23, 3) := by decide +kernel
theorem dX7_faultOf_48 : decode cX7_faultOf 48 = .ok (.iload 4, 2) := by decide +kernel
theorem dX7_faultOf_50 : decode cX7_faultOf 50 = .ok (.invokestatic 31, 3) := by decide +kernel
theorem dX7_faultOf_53 : decode cX7_faultOf 53 = .ok (.ifCond .ne 17, 3) := by decide +kernel
theorem dX7_faultOf_56 : decode cX7_faultOf 56 = .ok (.iload_n 2, 1) := by decide +kernel
theorem dX7_faultOf_57 : decode cX7_faultOf 57 = .ok (.ifCond .ne 11, 3) := by decide +kernel
theorem dX7_faultOf_60 : decode cX7_faultOf 60 = .ok (.iload 4, 2) := by decide +kernel
theorem dX7_faultOf_62 : decode cX7_faultOf 62 = .ok (.invokestatic 112, 3) := by decide +kernel
theorem dX7_faultOf_65 : decode cX7_faultOf 65 = .ok (.ifCond .ne 5, 3) := by decide +kernel
theorem dX7_faultOf_68 : decode cX7_faultOf 68 = .ok (.iload_n 3, 1) := by decide +kernel
theorem dX7_faultOf_69 : decode cX7_faultOf 69 = .ok (.ireturn, 1) := by decide +kernel
theorem dX7_faultOf_70 : decode cX7_faultOf 70 = .ok (.iinc 1 1, 3) := by decide +kernel
theorem dX7_faultOf_73 : decode cX7_faultOf 73 = .ok (.iload 4, 2) := by decide +kernel
theorem dX7_faultOf_75 : decode cX7_faultOf 75 = .ok (.invokestatic 112, 3) := by decide +kernel
theorem dX7_faultOf_78 : decode cX7_faultOf 78 = .ok (.istore_n 2, 1) := by decide +kernel
theorem dX7_faultOf_79 : decode cX7_faultOf 79 = .ok (.iinc 3 1, 3) := by decide +kernel
theorem dX7_faultOf_82 : decode cX7_faultOf 82 = .ok (.goto (-76), 3) := by decide +kernel
theorem dX7_faultOf_85 : decode cX7_faultOf 85 = .ok (.iload_n 2, 1) := by decide +kernel
theorem dX7_faultOf_86 : decode cX7_faultOf 86 = .ok (.ifCond .eq 10, 3) := by decide +kernel
theorem dX7_faultOf_89 : decode cX7_faultOf 89 = .ok (.aload_n 0, 1) := by decide +kernel
theorem dX7_faultOf_90 : decode cX7_faultOf 90 = .ok (.getfield 122, 3) := by decide +kernel
theorem dX7_faultOf_93 : decode cX7_faultOf 93 = .ok (.goto 6, 3) := by decide +kernel
theorem dX7_faultOf_96 : decode cX7_faultOf 96 = .ok (.sipush (-1005), 3) := by decide +kernel
theorem dX7_faultOf_99 : decode cX7_faultOf 99 = .ok (.ireturn, 1) := by decide +kernel
theorem dX7_namesInText_0 : decode cX7_namesInText 0 = .ok (.iconst 1, 1) := by decide +kernel
theorem dX7_namesInText_1 : decode cX7_namesInText 1 = .ok (.istore_n 1, 1) := by decide +kernel
theorem dX7_namesInText_2 : decode cX7_namesInText 2 = .ok (.iconst 0, 1) := by decide +kernel
theorem dX7_namesInText_3 : decode cX7_namesInText 3 = .ok (.istore_n 2, 1) := by decide +kernel
theorem dX7_namesInText_4 : decode cX7_namesInText 4 = .ok (.iload_n 2, 1) := by decide +kernel
theorem dX7_namesInText_5 : decode cX7_namesInText 5 = .ok (.aload_n 0, 1) := by decide +kernel
theorem dX7_namesInText_6 : decode cX7_namesInText 6 = .ok (.getfield 122, 3) := by decide +kernel
theorem dX7_namesInText_9 : decode cX7_namesInText 9 = .ok (.if_icmp .ge 28, 3) := by decide +kernel
theorem dX7_namesInText_12 : decode cX7_namesInText 12 = .ok (.iload_n 1, 1) := by decide +kernel
theorem dX7_namesInText_13 : decode cX7_namesInText 13 = .ok (.aload_n 0, 1) := by decide +kernel
theorem dX7_namesInText_14 : decode cX7_namesInText 14 = .ok (.getfield 19, 3) := by decide +kernel
theorem dX7_namesInText_17 : decode cX7_namesInText 17 = .ok (.iload_n 2, 1) := by decide +kernel
theorem dX7_namesInText_18 : decode cX7_namesInText 18 = .ok (.caload, 1) := by decide +kernel
theorem dX7_namesInText_19 : decode cX7_namesInText 19 = .ok (.bipush 59, 2) := by decide +kernel
theorem dX7_namesInText_21 : decode cX7_namesInText 21 = .ok (.if_icmp .ne 7, 3) := by decide +kernel
theorem dX7_namesInText_24 : decode cX7_namesInText 24 = .ok (.iconst 1, 1) := by decide +kernel
theorem dX7_namesInText_25 : decode cX7_namesInText 25 = .ok (.goto 4, 3) := by decide +kernel
theorem dX7_namesInText_28 : decode cX7_namesInText 28 = .ok (.iconst 0, 1) := by decide +kernel
theorem dX7_namesInText_29 : decode cX7_namesInText 29 = .ok (.iadd, 1) := by decide +kernel
theorem dX7_namesInText_30 : decode cX7_namesInText 30 = .ok (.istore_n 1, 1) := by decide +kernel
theorem dX7_namesInText_31 : decode cX7_namesInText 31 = .ok (.iinc 2 1, 3) := by decide +kernel
theorem dX7_namesInText_34 : decode cX7_namesInText 34 = .ok (.goto (-30), 3) := by decide +kernel
theorem dX7_namesInText_37 : decode cX7_namesInText 37 = .ok (.iload_n 1, 1) := by decide +kernel
theorem dX7_namesInText_38 : decode cX7_namesInText 38 = .ok (.ireturn, 1) := by decide +kernel
set_option maxRecDepth 20000 in
theorem ggX7_readNames_X7_faultOf : GoodIn wsX7_readNames wsX7_faultOf := goodIn_r _ [8, 2, 3, 9, 10, 7, 11, 12, 13, 14, 15, 16, 17, 28, 29, 30, 31, 32, 33, 34] (by decide +kernel) (by decide +kernel)
set_option maxRecDepth 20000 in
theorem gX7_readNames_X7_faultOf : GoodIn wsX7_readNames (wsV RX7 125 RX7 yX7_faultOf wsX7_faultOf) := goodIn_app (goodIn_of _ (by decide +kernel)) ggX7_readNames_X7_faultOf
set_option maxRecDepth 20000 in
theorem ggX7_readNames_X7_namesInText : GoodIn wsX7_readNames wsX7_namesInText := goodIn_r _ [21, 2, 3, 28, 29, 30, 31, 32, 33, 34] (by decide +kernel) (by decide +kernel)
set_option maxRecDepth 20000 in
theorem gX7_readNames_X7_namesInText : GoodIn wsX7_readNames (wsV RX7 128 RX7 yX7_namesInText wsX7_namesInText) := goodIn_app (goodIn_of _ (by decide +kernel)) ggX7_readNames_X7_namesInText
set_option maxRecDepth 20000 in
theorem ggX7_readNames_X7_record : GoodIn wsX7_readNames wsX7_record := goodIn_r _ [25, 26, 27, 1, 28, 29, 30, 31, 32, 33, 34] (by decide +kernel) (by decide +kernel)
set_option maxRecDepth 20000 in
theorem gX7_readNames_X7_record : GoodIn wsX7_readNames (wsV RX7 103 RX7 yX7_record wsX7_record) := goodIn_app (goodIn_of _ (by decide +kernel)) ggX7_readNames_X7_record
theorem dX7_readNames_0 : decode cX7_readNames 0 = .ok (.aload_n 0, 1) := by decide +kernel
theorem dX7_readNames_1 : decode cX7_readNames 1 = .ok (.invokevirtual 125, 3) := by decide +kernel
theorem dX7_readNames_4 : decode cX7_readNames 4 = .ok (.istore_n 1, 1) := by decide +kernel
theorem dX7_readNames_5 : decode cX7_readNames 5 = .ok (.iload_n 1, 1) := by decide +kernel
theorem dX7_readNames_6 : decode cX7_readNames 6 = .ok (.sipush (-1005), 3) := by decide +kernel
theorem dX7_readNames_9 : decode cX7_readNames 9 = .ok (.if_icmp .eq 8, 3) := by decide +kernel
theorem dX7_readNames_12 : decode cX7_readNames 12 = .ok (.bipush (-100), 2) := by decide +kernel
theorem dX7_readNames_14 : decode cX7_readNames 14 = .ok (.iload_n 1, 1) := by decide +kernel
theorem dX7_readNames_15 : decode cX7_readNames 15 = .ok (.isub, 1) := by decide +kernel
theorem dX7_readNames_16 : decode cX7_readNames 16 = .ok (.ireturn, 1) := by decide +kernel
theorem dX7_readNames_17 : decode cX7_readNames 17 = .ok (.aload_n 0, 1) := by decide +kernel
theorem dX7_readNames_18 : decode cX7_readNames 18 = .ok (.invokevirtual 128, 3) := by decide +kernel
theorem dX7_readNames_21 : decode cX7_readNames 21 = .ok (.istore_n 2, 1) := by decide +kernel
theorem dX7_readNames_22 : decode cX7_readNames 22 = .ok (.aload_n 0, 1) := by decide +kernel
theorem dX7_readNames_23 : decode cX7_readNames 23 = .ok (.getfield 7, 3) := by decide +kernel
theorem dX7_readNames_26 : decode cX7_readNames 26 = .ok (.iconst 4, 1) := by decide +kernel
theorem dX7_readNames_27 : decode cX7_readNames 27 = .ok (.iaload, 1) := by decide +kernel
theorem dX7_readNames_28 : decode cX7_readNames 28 = .ok (.iload_n 2, 1) := by decide +kernel
theorem dX7_readNames_29 : decode cX7_readNames 29 = .ok (.iadd, 1) := by decide +kernel
theorem dX7_readNames_30 : decode cX7_readNames 30 = .ok (.bipush 20, 2) := by decide +kernel
theorem dX7_readNames_32 : decode cX7_readNames 32 = .ok (.if_icmp .le 7, 3) := by decide +kernel
theorem dX7_readNames_35 : decode cX7_readNames 35 = .ok (.sipush (-1003), 3) := by decide +kernel
theorem dX7_readNames_38 : decode cX7_readNames 38 = .ok (.ireturn, 1) := by decide +kernel
theorem dX7_readNames_39 : decode cX7_readNames 39 = .ok (.aload_n 0, 1) := by decide +kernel
theorem dX7_readNames_40 : decode cX7_readNames 40 = .ok (.invokevirtual 103, 3) := by decide +kernel
theorem dX7_readNames_43 : decode cX7_readNames 43 = .ok (.bipush 57, 2) := by decide +kernel
theorem dX7_readNames_45 : decode cX7_readNames 45 = .ok (.bipush 18, 2) := by decide +kernel
theorem dX7_readNames_47 : decode cX7_readNames 47 = .ok (.aload_n 0, 1) := by decide +kernel
theorem dX7_readNames_48 : decode cX7_readNames 48 = .ok (.getfield 7, 3) := by decide +kernel
theorem dX7_readNames_51 : decode cX7_readNames 51 = .ok (.iconst 4, 1) := by decide +kernel
theorem dX7_readNames_52 : decode cX7_readNames 52 = .ok (.iaload, 1) := by decide +kernel
theorem dX7_readNames_53 : decode cX7_readNames 53 = .ok (.imul, 1) := by decide +kernel
theorem dX7_readNames_54 : decode cX7_readNames 54 = .ok (.iadd, 1) := by decide +kernel
theorem dX7_readNames_55 : decode cX7_readNames 55 = .ok (.istore_n 3, 1) := by decide +kernel
theorem dX7_readNames_56 : decode cX7_readNames 56 = .ok (.aload_n 0, 1) := by decide +kernel
theorem dX7_readNames_57 : decode cX7_readNames 57 = .ok (.getfield 7, 3) := by decide +kernel
theorem dX7_readNames_60 : decode cX7_readNames 60 = .ok (.iload_n 3, 1) := by decide +kernel
theorem dX7_readNames_61 : decode cX7_readNames 61 = .ok (.iconst 0, 1) := by decide +kernel
theorem dX7_readNames_62 : decode cX7_readNames 62 = .ok (.iadd, 1) := by decide +kernel
theorem dX7_readNames_63 : decode cX7_readNames 63 = .ok (.iconst 0, 1) := by decide +kernel
theorem dX7_readNames_64 : decode cX7_readNames 64 = .ok (.iastore, 1) := by decide +kernel
theorem dX7_readNames_65 : decode cX7_readNames 65 = .ok (.aload_n 0, 1) := by decide +kernel
theorem dX7_readNames_66 : decode cX7_readNames 66 = .ok (.getfield 7, 3) := by decide +kernel
theorem dX7_readNames_69 : decode cX7_readNames 69 = .ok (.iload_n 3, 1) := by decide +kernel
theorem dX7_readNames_70 : decode cX7_readNames 70 = .ok (.iconst 1, 1) := by decide +kernel
theorem dX7_readNames_71 : decode cX7_readNames 71 = .ok (.iadd, 1) := by decide +kernel
theorem dX7_readNames_72 : decode cX7_readNames 72 = .ok (.iconst 0, 1) := by decide +kernel
theorem dX7_readNames_73 : decode cX7_readNames 73 = .ok (.iastore, 1) := by decide +kernel
theorem dX7_readNames_74 : decode cX7_readNames 74 = .ok (.iconst 0, 1) := by decide +kernel
theorem dX7_readNames_75 : decode cX7_readNames 75 = .ok (.istore 4, 2) := by decide +kernel
theorem dX7_readNames_77 : decode cX7_readNames 77 = .ok (.iload 4, 2) := by decide +kernel
theorem dX7_readNames_79 : decode cX7_readNames 79 = .ok (.aload_n 0, 1) := by decide +kernel
theorem dX7_readNames_80 : decode cX7_readNames 80 = .ok (.getfield 122, 3) := by decide +kernel
theorem dX7_readNames_83 : decode cX7_readNames 83 = .ok (.if_icmp .ge 81, 3) := by decide +kernel
theorem dX7_readNames_86 : decode cX7_readNames 86 = .ok (.aload_n 0, 1) := by decide +kernel
theorem dX7_readNames_87 : decode cX7_readNames 87 = .ok (.getfield 19, 3) := by decide +kernel
theorem dX7_readNames_90 : decode cX7_readNames 90 = .ok (.iload 4, 2) := by decide +kernel
theorem dX7_readNames_92 : decode cX7_readNames 92 = .ok (.caload, 1) := by decide +kernel
theorem dX7_readNames_93 : decode cX7_readNames 93 = .ok (.bipush 59, 2) := by decide +kernel
theorem dX7_readNames_95 : decode cX7_readNames 95 = .ok (.if_icmp .ne 27, 3) := by decide +kernel
theorem dX7_readNames_98 : decode cX7_readNames 98 = .ok (.iinc 3 18, 3) := by decide +kernel
theorem dX7_readNames_101 : decode cX7_readNames 101 = .ok (.aload_n 0, 1) := by decide +kernel
theorem dX7_readNames_102 : decode cX7_readNames 102 = .ok (.getfield 7, 3) := by decide +kernel
theorem dX7_readNames_105 : decode cX7_readNames 105 = .ok (.iload_n 3, 1) := by decide +kernel
theorem dX7_readNames_106 : decode cX7_readNames 106 = .ok (.iconst 0, 1) := by decide +kernel
theorem dX7_readNames_107 : decode cX7_readNames 107 = .ok (.iadd, 1) := by decide +kernel
theorem dX7_readNames_108 : decode cX7_readNames 108 = .ok (.iconst 0, 1) := by decide +kernel
theorem dX7_readNames_109 : decode cX7_readNames 109 = .ok (.iastore, 1) := by decide +kernel
theorem dX7_readNames_110 : decode cX7_readNames 110 = .ok (.aload_n 0, 1) := by decide +kernel
theorem dX7_readNames_111 : decode cX7_readNames 111 = .ok (.getfield 7, 3) := by decide +kernel
theorem dX7_readNames_114 : decode cX7_readNames 114 = .ok (.iload_n 3, 1) := by decide +kernel
theorem dX7_readNames_115 : decode cX7_readNames 115 = .ok (.iconst 1, 1) := by decide +kernel
theorem dX7_readNames_116 : decode cX7_readNames 116 = .ok (.iadd, 1) := by decide +kernel
theorem dX7_readNames_117 : decode cX7_readNames 117 = .ok (.iconst 0, 1) := by decide +kernel
theorem dX7_readNames_118 : decode cX7_readNames 118 = .ok (.iastore, 1) := by decide +kernel
theorem dX7_readNames_119 : decode cX7_readNames 119 = .ok (.goto 39, 3) := by decide +kernel
theorem dX7_readNames_122 : decode cX7_readNames 122 = .ok (.aload_n 0, 1) := by decide +kernel
theorem dX7_readNames_123 : decode cX7_readNames 123 = .ok (.getfield 7, 3) := by decide +kernel
theorem dX7_readNames_126 : decode cX7_readNames 126 = .ok (.iload_n 3, 1) := by decide +kernel
theorem dX7_readNames_127 : decode cX7_readNames 127 = .ok (.iconst 2, 1) := by decide +kernel
theorem dX7_readNames_128 : decode cX7_readNames 128 = .ok (.iadd, 1) := by decide +kernel
theorem dX7_readNames_129 : decode cX7_readNames 129 = .ok (.aload_n 0, 1) := by decide +kernel
theorem dX7_readNames_130 : decode cX7_readNames 130 = .ok (.getfield 7, 3) := by decide +kernel
theorem dX7_readNames_133 : decode cX7_readNames 133 = .ok (.iload_n 3, 1) := by decide +kernel
theorem dX7_readNames_134 : decode cX7_readNames 134 = .ok (.iconst 0, 1) := by decide +kernel
theorem dX7_readNames_135 : decode cX7_readNames 135 = .ok (.iadd, 1) := by decide +kernel
theorem dX7_readNames_136 : decode cX7_readNames 136 = .ok (.iaload, 1) := by decide +kernel
theorem dX7_readNames_137 : decode cX7_readNames 137 = .ok (.iadd, 1) := by decide +kernel
theorem dX7_readNames_138 : decode cX7_readNames 138 = .ok (.aload_n 0, 1) := by decide +kernel
theorem dX7_readNames_139 : decode cX7_readNames 139 = .ok (.getfield 19, 3) := by decide +kernel
theorem dX7_readNames_142 : decode cX7_readNames 142 = .ok (.iload 4, 2) := by decide +kernel
theorem dX7_readNames_144 : decode cX7_readNames 144 = .ok (.caload, 1) := by decide +kernel
theorem dX7_readNames_145 : decode cX7_readNames 145 = .ok (.iastore, 1) := by decide +kernel
theorem dX7_readNames_146 : decode cX7_readNames 146 = .ok (.aload_n 0, 1) := by decide +kernel
theorem dX7_readNames_147 : decode cX7_readNames 147 = .ok (.getfield 7, 3) := by decide +kernel
theorem dX7_readNames_150 : decode cX7_readNames 150 = .ok (.iload_n 3, 1) := by decide +kernel
theorem dX7_readNames_151 : decode cX7_readNames 151 = .ok (.iconst 0, 1) := by decide +kernel
theorem dX7_readNames_152 : decode cX7_readNames 152 = .ok (.iadd, 1) := by decide +kernel
theorem dX7_readNames_153 : decode cX7_readNames 153 = .ok (.dup2, 1) := by decide +kernel
theorem dX7_readNames_154 : decode cX7_readNames 154 = .ok (.iaload, 1) := by decide +kernel
theorem dX7_readNames_155 : decode cX7_readNames 155 = .ok (.iconst 1, 1) := by decide +kernel
theorem dX7_readNames_156 : decode cX7_readNames 156 = .ok (.iadd, 1) := by decide +kernel
theorem dX7_readNames_157 : decode cX7_readNames 157 = .ok (.iastore, 1) := by decide +kernel
theorem dX7_readNames_158 : decode cX7_readNames 158 = .ok (.iinc 4 1, 3) := by decide +kernel
theorem dX7_readNames_161 : decode cX7_readNames 161 = .ok (.goto (-84), 3) := by decide +kernel
theorem dX7_readNames_164 : decode cX7_readNames 164 = .ok (.aload_n 0, 1) := by decide +kernel
theorem dX7_readNames_165 : decode cX7_readNames 165 = .ok (.getfield 7, 3) := by decide +kernel
theorem dX7_readNames_168 : decode cX7_readNames 168 = .ok (.iconst 4, 1) := by decide +kernel
theorem dX7_readNames_169 : decode cX7_readNames 169 = .ok (.dup2, 1) := by decide +kernel
theorem dX7_readNames_170 : decode cX7_readNames 170 = .ok (.iaload, 1) := by decide +kernel
theorem dX7_readNames_171 : decode cX7_readNames 171 = .ok (.iload_n 2, 1) := by decide +kernel
theorem dX7_readNames_172 : decode cX7_readNames 172 = .ok (.iadd, 1) := by decide +kernel
theorem dX7_readNames_173 : decode cX7_readNames 173 = .ok (.iastore, 1) := by decide +kernel
theorem dX7_readNames_174 : decode cX7_readNames 174 = .ok (.iload_n 2, 1) := by decide +kernel
theorem dX7_readNames_175 : decode cX7_readNames 175 = .ok (.ireturn, 1) := by decide +kernel
set_option maxRecDepth 20000 in
theorem ggX7_remove_X7_noSeat : GoodIn wsX7_remove wsX7_noSeat := goodIn_r _ [6, 1, 7, 8, 5, 9, 24, 25, 26, 27, 28, 29, 30] (by decide +kernel) (by decide +kernel)
set_option maxRecDepth 20000 in
theorem gX7_remove_X7_noSeat : GoodIn wsX7_remove (wsV RX7 131 RX7 yX7_noSeat wsX7_noSeat) := goodIn_app (goodIn_of _ (by decide +kernel)) ggX7_remove_X7_noSeat
set_option maxRecDepth 20000 in
theorem ggX7_remove_X7_isEngraved : GoodIn wsX7_remove wsX7_isEngraved := goodIn_r _ [13, 14, 15, 16, 5, 17, 1, 24, 25, 26, 27, 28, 29, 30] (by decide +kernel) (by decide +kernel)
set_option maxRecDepth 20000 in
theorem gX7_remove_X7_isEngraved : GoodIn wsX7_remove (wsV RX7 109 RX7 yX7_isEngraved wsX7_isEngraved) := goodIn_app (goodIn_of _ (by decide +kernel)) ggX7_remove_X7_isEngraved
set_option maxRecDepth 20000 in
theorem ggX7_remove_X7_record : GoodIn wsX7_remove wsX7_record := goodIn_r _ [21, 22, 23, 1, 24, 25, 26, 27, 28, 29, 30] (by decide +kernel) (by decide +kernel)
set_option maxRecDepth 20000 in
theorem gX7_remove_X7_record : GoodIn wsX7_remove (wsV RX7 103 RX7 yX7_record wsX7_record) := goodIn_app (goodIn_of _ (by decide +kernel)) ggX7_remove_X7_record
theorem dX7_remove_0 : decode cX7_remove 0 = .ok (.aload_n 0, 1) := by decide +kernel
theorem dX7_remove_1 : decode cX7_remove 1 = .ok (.iload_n 1, 1) := by decide +kernel
theorem dX7_remove_2 : decode cX7_remove 2 = .ok (.invokevirtual 131, 3) := by decide +kernel
theorem dX7_remove_5 : decode cX7_remove 5 = .ok (.ifCond .eq 7, 3) := by decide +kernel
theorem dX7_remove_8 : decode cX7_remove 8 = .ok (.sipush (-1001), 3) := by decide +kernel
theorem dX7_remove_11 : decode cX7_remove 11 = .ok (.ireturn, 1) := by decide +kernel
theorem dX7_remove_12 : decode cX7_remove 12 = .ok (.iload_n 1, 1) := by decide +kernel
theorem dX7_remove_13 : decode cX7_remove 13 = .ok (.istore_n 2, 1) := by decide +kernel
theorem dX7_remove_14 : decode cX7_remove 14 = .ok (.iload_n 2, 1) := by decide +kernel
theorem dX7_remove_15 : decode cX7_remove 15 = .ok (.aload_n 0, 1) := by decide +kernel
theorem dX7_remove_16 : decode cX7_remove 16 = .ok (.getfield 7, 3) := by decide +kernel
theorem dX7_remove_19 : decode cX7_remove 19 = .ok (.iconst 4, 1) := by decide +kernel
theorem dX7_remove_20 : decode cX7_remove 20 = .ok (.iaload, 1) := by decide +kernel
theorem dX7_remove_21 : decode cX7_remove 21 = .ok (.if_icmp .ge 21, 3) := by decide +kernel
theorem dX7_remove_24 : decode cX7_remove 24 = .ok (.aload_n 0, 1) := by decide +kernel
theorem dX7_remove_25 : decode cX7_remove 25 = .ok (.iload_n 2, 1) := by decide +kernel
theorem dX7_remove_26 : decode cX7_remove 26 = .ok (.invokevirtual 109, 3) := by decide +kernel
theorem dX7_remove_29 : decode cX7_remove 29 = .ok (.ifCond .eq 7, 3) := by decide +kernel
theorem dX7_remove_32 : decode cX7_remove 32 = .ok (.sipush (-1004), 3) := by decide +kernel
theorem dX7_remove_35 : decode cX7_remove 35 = .ok (.ireturn, 1) := by decide +kernel
theorem dX7_remove_36 : decode cX7_remove 36 = .ok (.iinc 2 1, 3) := by decide +kernel
theorem dX7_remove_39 : decode cX7_remove 39 = .ok (.goto (-25), 3) := by decide +kernel
theorem dX7_remove_42 : decode cX7_remove 42 = .ok (.aload_n 0, 1) := by decide +kernel
theorem dX7_remove_43 : decode cX7_remove 43 = .ok (.invokevirtual 103, 3) := by decide +kernel
theorem dX7_remove_46 : decode cX7_remove 46 = .ok (.aload_n 0, 1) := by decide +kernel
theorem dX7_remove_47 : decode cX7_remove 47 = .ok (.getfield 7, 3) := by decide +kernel
theorem dX7_remove_50 : decode cX7_remove 50 = .ok (.iconst 4, 1) := by decide +kernel
theorem dX7_remove_51 : decode cX7_remove 51 = .ok (.dup2, 1) := by decide +kernel
theorem dX7_remove_52 : decode cX7_remove 52 = .ok (.iaload, 1) := by decide +kernel
theorem dX7_remove_53 : decode cX7_remove 53 = .ok (.iconst 1, 1) := by decide +kernel
theorem dX7_remove_54 : decode cX7_remove 54 = .ok (.isub, 1) := by decide +kernel
theorem dX7_remove_55 : decode cX7_remove 55 = .ok (.iastore, 1) := by decide +kernel
theorem dX7_remove_56 : decode cX7_remove 56 = .ok (.bipush 57, 2) := by decide +kernel
theorem dX7_remove_58 : decode cX7_remove 58 = .ok (.bipush 18, 2) := by decide +kernel
theorem dX7_remove_60 : decode cX7_remove 60 = .ok (.iload_n 1, 1) := by decide +kernel
theorem dX7_remove_61 : decode cX7_remove 61 = .ok (.imul, 1) := by decide +kernel
theorem dX7_remove_62 : decode cX7_remove 62 = .ok (.iadd, 1) := by decide +kernel
theorem dX7_remove_63 : decode cX7_remove 63 = .ok (.istore_n 2, 1) := by decide +kernel
theorem dX7_remove_64 : decode cX7_remove 64 = .ok (.iload_n 2, 1) := by decide +kernel
theorem dX7_remove_65 : decode cX7_remove 65 = .ok (.bipush 57, 2) := by decide +kernel
theorem dX7_remove_67 : decode cX7_remove 67 = .ok (.bipush 18, 2) := by decide +kernel
theorem dX7_remove_69 : decode cX7_remove 69 = .ok (.aload_n 0, 1) := by decide +kernel
theorem dX7_remove_70 : decode cX7_remove 70 = .ok (.getfield 7, 3) := by decide +kernel
theorem dX7_remove_73 : decode cX7_remove 73 = .ok (.iconst 4, 1) := by decide +kernel
theorem dX7_remove_74 : decode cX7_remove 74 = .ok (.iaload, 1) := by decide +kernel
theorem dX7_remove_75 : decode cX7_remove 75 = .ok (.imul, 1) := by decide +kernel
theorem dX7_remove_76 : decode cX7_remove 76 = .ok (.iadd, 1) := by decide +kernel
theorem dX7_remove_77 : decode cX7_remove 77 = .ok (.if_icmp .ge 24, 3) := by decide +kernel
theorem dX7_remove_80 : decode cX7_remove 80 = .ok (.aload_n 0, 1) := by decide +kernel
theorem dX7_remove_81 : decode cX7_remove 81 = .ok (.getfield 7, 3) := by decide +kernel
theorem dX7_remove_84 : decode cX7_remove 84 = .ok (.iload_n 2, 1) := by decide +kernel
theorem dX7_remove_85 : decode cX7_remove 85 = .ok (.aload_n 0, 1) := by decide +kernel
theorem dX7_remove_86 : decode cX7_remove 86 = .ok (.getfield 7, 3) := by decide +kernel
theorem dX7_remove_89 : decode cX7_remove 89 = .ok (.iload_n 2, 1) := by decide +kernel
theorem dX7_remove_90 : decode cX7_remove 90 = .ok (.bipush 18, 2) := by decide +kernel
theorem dX7_remove_92 : decode cX7_remove 92 = .ok (.iadd, 1) := by decide +kernel
theorem dX7_remove_93 : decode cX7_remove 93 = .ok (.iaload, 1) := by decide +kernel
theorem dX7_remove_94 : decode cX7_remove 94 = .ok (.iastore, 1) := by decide +kernel
theorem dX7_remove_95 : decode cX7_remove 95 = .ok (.iinc 2 1, 3) := by decide +kernel
theorem dX7_remove_98 : decode cX7_remove 98 = .ok (.goto (-34), 3) := by decide +kernel
theorem dX7_remove_101 : decode cX7_remove 101 = .ok (.aload_n 0, 1) := by decide +kernel
theorem dX7_remove_102 : decode cX7_remove 102 = .ok (.getfield 7, 3) := by decide +kernel
theorem dX7_remove_105 : decode cX7_remove 105 = .ok (.iconst 4, 1) := by decide +kernel
theorem dX7_remove_106 : decode cX7_remove 106 = .ok (.iaload, 1) := by decide +kernel
theorem dX7_remove_107 : decode cX7_remove 107 = .ok (.ireturn, 1) := by decide +kernel
set_option maxRecDepth 20000 in
theorem ggX7_swap_X7_noSeat : GoodIn wsX7_swap wsX7_noSeat := goodIn_r _ [6, 1, 7, 8, 5, 9, 84, 85, 86, 87, 88, 89, 90] (by decide +kernel) (by decide +kernel)
set_option maxRecDepth 20000 in
theorem gX7_swap_X7_noSeat : GoodIn wsX7_swap (wsV RX7 131 RX7 yX7_noSeat wsX7_noSeat) := goodIn_app (goodIn_of _ (by decide +kernel)) ggX7_swap_X7_noSeat
set_option maxRecDepth 20000 in
theorem ggX7_swap_X7_isEngraved : GoodIn wsX7_swap wsX7_isEngraved := goodIn_r _ [13, 14, 15, 16, 5, 17, 1, 84, 85, 86, 87, 88, 89, 90] (by decide +kernel) (by decide +kernel)
set_option maxRecDepth 20000 in
theorem gX7_swap_X7_isEngraved : GoodIn wsX7_swap (wsV RX7 109 RX7 yX7_isEngraved wsX7_isEngraved) := goodIn_app (goodIn_of _ (by decide +kernel)) ggX7_swap_X7_isEngraved
set_option maxRecDepth 20000 in
theorem ggX7_swap_X7_record : GoodIn wsX7_swap wsX7_record := goodIn_r _ [21, 22, 23, 1, 84, 85, 86, 87, 88, 89, 90] (by decide +kernel) (by decide +kernel)
set_option maxRecDepth 20000 in
theorem gX7_swap_X7_record : GoodIn wsX7_swap (wsV RX7 103 RX7 yX7_record wsX7_record) := goodIn_app (goodIn_of _ (by decide +kernel)) ggX7_swap_X7_record
set_option maxRecDepth 20000 in
theorem ggX7_swap_X7_of : GoodIn wsX7_swap wsX7_of := goodIn_r _ [17, 1, 84, 85, 86, 87, 88, 89, 90] (by decide +kernel) (by decide +kernel)
set_option maxRecDepth 20000 in
theorem gX7_swap_X7_of : GoodIn wsX7_swap (wsV RX7 46 RX7 yX7_of wsX7_of) := goodIn_app (goodIn_of _ (by decide +kernel)) ggX7_swap_X7_of
set_option maxRecDepth 20000 in
theorem ggX7_swap_X7_size : GoodIn wsX7_swap wsX7_size := goodIn_r _ [27, 1, 28, 29, 30, 5, 31, 14, 15, 16, 17, 32, 33, 34, 35, 36, 37, 38, 39, 40, 41, 42, 43, 44, 45, 46, 47, 48, 49, 50, 51, 52, 53, 54, 55, 56, 57, 7, 8, 9, 58, 59, 60, 61, 62, 63, 64, 65, 66, 67, 68, 69, 70, 71, 72, 73, 74, 75, 76, 77, 78, 79, 80, 81, 82, 83, 84, 85, 86, 87, 88, 89, 90] (by decide +kernel) (by decide +kernel)
set_option maxRecDepth 20000 in
theorem gX7_swap_X7_size : GoodIn wsX7_swap (wsV RX7 134 RX7 yX7_size wsX7_size) := goodIn_app (goodIn_of _ (by decide +kernel)) ggX7_swap_X7_size
theorem dX7_swap_0 : decode cX7_swap 0 = .ok (.aload_n 0, 1) := by decide +kernel
theorem dX7_swap_1 : decode cX7_swap 1 = .ok (.iload_n 1, 1) := by decide +kernel
theorem dX7_swap_2 : decode cX7_swap 2 = .ok (.invokevirtual 131, 3) := by decide +kernel
theorem dX7_swap_5 : decode cX7_swap 5 = .ok (.ifCond .ne 11, 3) := by decide +kernel
theorem dX7_swap_8 : decode cX7_swap 8 = .ok (.aload_n 0, 1) := by decide +kernel
theorem dX7_swap_9 : decode cX7_swap 9 = .ok (.iload_n 2, 1) := by decide +kernel
theorem dX7_swap_10 : decode cX7_swap 10 = .ok (.invokevirtual 131, 3) := by decide +kernel
theorem dX7_swap_13 : decode cX7_swap 13 = .ok (.ifCond .eq 7, 3) := by decide +kernel
theorem dX7_swap_16 : decode cX7_swap 16 = .ok (.sipush (-1001), 3) := by decide +kernel
theorem dX7_swap_19 : decode cX7_swap 19 = .ok (.ireturn, 1) := by decide +kernel
theorem dX7_swap_20 : decode cX7_swap 20 = .ok (.aload_n 0, 1) := by decide +kernel
theorem dX7_swap_21 : decode cX7_swap 21 = .ok (.iload_n 1, 1) := by decide +kernel
theorem dX7_swap_22 : decode cX7_swap 22 = .ok (.invokevirtual 109, 3) := by decide +kernel
theorem dX7_swap_25 : decode cX7_swap 25 = .ok (.ifCond .ne 11, 3) := by decide +kernel
theorem dX7_swap_28 : decode cX7_swap 28 = .ok (.aload_n 0, 1) := by decide +kernel
theorem dX7_swap_29 : decode cX7_swap 29 = .ok (.iload_n 2, 1) := by decide +kernel
theorem dX7_swap_30 : decode cX7_swap 30 = .ok (.invokevirtual 109, 3) := by decide +kernel
theorem dX7_swap_33 : decode cX7_swap 33 = .ok (.ifCond .eq 7, 3) := by decide +kernel
theorem dX7_swap_36 : decode cX7_swap 36 = .ok (.sipush (-1004), 3) := by decide +kernel
theorem dX7_swap_39 : decode cX7_swap 39 = .ok (.ireturn, 1) := by decide +kernel
theorem dX7_swap_40 : decode cX7_swap 40 = .ok (.iload_n 1, 1) := by decide +kernel
theorem dX7_swap_41 : decode cX7_swap 41 = .ok (.iload_n 2, 1) := by decide +kernel
theorem dX7_swap_42 : decode cX7_swap 42 = .ok (.if_icmp .ne 7, 3) := by decide +kernel
theorem dX7_swap_45 : decode cX7_swap 45 = .ok (.sipush (-1005), 3) := by decide +kernel
theorem dX7_swap_48 : decode cX7_swap 48 = .ok (.ireturn, 1) := by decide +kernel
theorem dX7_swap_49 : decode cX7_swap 49 = .ok (.aload_n 0, 1) := by decide +kernel
theorem dX7_swap_50 : decode cX7_swap 50 = .ok (.invokevirtual 103, 3) := by decide +kernel
theorem dX7_swap_53 : decode cX7_swap 53 = .ok (.iconst 0, 1) := by decide +kernel
theorem dX7_swap_54 : decode cX7_swap 54 = .ok (.istore_n 3, 1) := by decide +kernel
theorem dX7_swap_55 : decode cX7_swap 55 = .ok (.iload_n 3, 1) := by decide +kernel
theorem dX7_swap_56 : decode cX7_swap 56 = .ok (.bipush 18, 2) := by decide +kernel
theorem dX7_swap_58 : decode cX7_swap 58 = .ok (.if_icmp .ge 53, 3) := by decide +kernel
theorem dX7_swap_61 : decode cX7_swap 61 = .ok (.aload_n 0, 1) := by decide +kernel
theorem dX7_swap_62 : decode cX7_swap 62 = .ok (.iload_n 1, 1) := by decide +kernel
theorem dX7_swap_63 : decode cX7_swap 63 = .ok (.iload_n 3, 1) := by decide +kernel
theorem dX7_swap_64 : decode cX7_swap 64 = .ok (.invokevirtual 46, 3) := by decide +kernel
theorem dX7_swap_67 : decode cX7_swap 67 = .ok (.istore 4, 2) := by decide +kernel
theorem dX7_swap_69 : decode cX7_swap 69 = .ok (.aload_n 0, 1) := by decide +kernel
theorem dX7_swap_70 : decode cX7_swap 70 = .ok (.getfield 7, 3) := by decide +kernel
theorem dX7_swap_73 : decode cX7_swap 73 = .ok (.bipush 57, 2) := by decide +kernel
theorem dX7_swap_75 : decode cX7_swap 75 = .ok (.bipush 18, 2) := by decide +kernel
theorem dX7_swap_77 : decode cX7_swap 77 = .ok (.iload_n 1, 1) := by decide +kernel
theorem dX7_swap_78 : decode cX7_swap 78 = .ok (.imul, 1) := by decide +kernel
theorem dX7_swap_79 : decode cX7_swap 79 = .ok (.iadd, 1) := by decide +kernel
theorem dX7_swap_80 : decode cX7_swap 80 = .ok (.iload_n 3, 1) := by decide +kernel
theorem dX7_swap_81 : decode cX7_swap 81 = .ok (.iadd, 1) := by decide +kernel
theorem dX7_swap_82 : decode cX7_swap 82 = .ok (.aload_n 0, 1) := by decide +kernel
theorem dX7_swap_83 : decode cX7_swap 83 = .ok (.iload_n 2, 1) := by decide +kernel
theorem dX7_swap_84 : decode cX7_swap 84 = .ok (.iload_n 3, 1) := by decide +kernel
theorem dX7_swap_85 : decode cX7_swap 85 = .ok (.invokevirtual 46, 3) := by decide +kernel
theorem dX7_swap_88 : decode cX7_swap 88 = .ok (.iastore, 1) := by decide +kernel
theorem dX7_swap_89 : decode cX7_swap 89 = .ok (.aload_n 0, 1) := by decide +kernel
theorem dX7_swap_90 : decode cX7_swap 90 = .ok (.getfield 7, 3) := by decide +kernel
theorem dX7_swap_93 : decode cX7_swap 93 = .ok (.bipush 57, 2) := by decide +kernel
theorem dX7_swap_95 : decode cX7_swap 95 = .ok (.bipush 18, 2) := by decide +kernel
theorem dX7_swap_97 : decode cX7_swap 97 = .ok (.iload_n 2, 1) := by decide +kernel
theorem dX7_swap_98 : decode cX7_swap 98 = .ok (.imul, 1) := by decide +kernel
theorem dX7_swap_99 : decode cX7_swap 99 = .ok (.iadd, 1) := by decide +kernel
theorem dX7_swap_100 : decode cX7_swap 100 = .ok (.iload_n 3, 1) := by decide +kernel
theorem dX7_swap_101 : decode cX7_swap 101 = .ok (.iadd, 1) := by decide +kernel
theorem dX7_swap_102 : decode cX7_swap 102 = .ok (.iload 4, 2) := by decide +kernel
theorem dX7_swap_104 : decode cX7_swap 104 = .ok (.iastore, 1) := by decide +kernel
theorem dX7_swap_105 : decode cX7_swap 105 = .ok (.iinc 3 1, 3) := by decide +kernel
theorem dX7_swap_108 : decode cX7_swap 108 = .ok (.goto (-53), 3) := by decide +kernel
theorem dX7_swap_111 : decode cX7_swap 111 = .ok (.aload_n 0, 1) := by decide +kernel
theorem dX7_swap_112 : decode cX7_swap 112 = .ok (.invokevirtual 134, 3) := by decide +kernel
theorem dX7_swap_115 : decode cX7_swap 115 = .ok (.ireturn, 1) := by decide +kernel
theorem dX7_engraves_0 : decode cX7_engraves 0 = .ok (.aload_n 0, 1) := by decide +kernel
theorem dX7_engraves_1 : decode cX7_engraves 1 = .ok (.getfield 7, 3) := by decide +kernel
theorem dX7_engraves_4 : decode cX7_engraves 4 = .ok (.bipush 57, 2) := by decide +kernel
theorem dX7_engraves_6 : decode cX7_engraves 6 = .ok (.bipush 18, 2) := by decide +kernel
theorem dX7_engraves_8 : decode cX7_engraves 8 = .ok (.iload_n 1, 1) := by decide +kernel
theorem dX7_engraves_9 : decode cX7_engraves 9 = .ok (.imul, 1) := by decide +kernel
theorem dX7_engraves_10 : decode cX7_engraves 10 = .ok (.iadd, 1) := by decide +kernel
theorem dX7_engraves_11 : decode cX7_engraves 11 = .ok (.iconst 1, 1) := by decide +kernel
theorem dX7_engraves_12 : decode cX7_engraves 12 = .ok (.iadd, 1) := by decide +kernel
theorem dX7_engraves_13 : decode cX7_engraves 13 = .ok (.iconst 1, 1) := by decide +kernel
theorem dX7_engraves_14 : decode cX7_engraves 14 = .ok (.iastore, 1) := by decide +kernel
theorem dX7_engraves_15 : decode cX7_engraves 15 = .ok (.aload_n 0, 1) := by decide +kernel
theorem dX7_engraves_16 : decode cX7_engraves 16 = .ok (.getfield 7, 3) := by decide +kernel
theorem dX7_engraves_19 : decode cX7_engraves 19 = .ok (.iconst 5, 1) := by decide +kernel
theorem dX7_engraves_20 : decode cX7_engraves 20 = .ok (.iload_n 2, 1) := by decide +kernel
theorem dX7_engraves_21 : decode cX7_engraves 21 = .ok (.iastore, 1) := by decide +kernel
theorem dX7_engraves_22 : decode cX7_engraves 22 = .ok (.return_, 1) := by decide +kernel
set_option maxRecDepth 20000 in
theorem ggX7_engrave_X7_noSeat : GoodIn wsX7_engrave wsX7_noSeat := goodIn_r _ [5, 6, 7, 8, 4, 9, 118, 119, 120, 121, 122, 123, 124] (by decide +kernel) (by decide +kernel)
set_option maxRecDepth 20000 in
theorem gX7_engrave_X7_noSeat : GoodIn wsX7_engrave (wsV RX7 131 RX7 yX7_noSeat wsX7_noSeat) := goodIn_app (goodIn_of _ (by decide +kernel)) ggX7_engrave_X7_noSeat
set_option maxRecDepth 20000 in
theorem ggX7_engrave_X7_size : GoodIn wsX7_engrave wsX7_size := goodIn_r _ [13, 6, 14, 15, 16, 4, 17, 18, 19, 20, 21, 22, 23, 24, 25, 26, 27, 28, 29, 30, 31, 32, 33, 34, 35, 36, 37, 38, 39, 40, 41, 42, 43, 44, 45, 46, 47, 7, 8, 9, 48, 49, 50, 51, 52, 53, 54, 55, 56, 57, 58, 59, 60, 61, 62, 63, 64, 65, 66, 67, 68, 69, 70, 71, 72, 73, 118, 119, 120, 121, 122, 123, 124] (by decide +kernel) (by decide +kernel)
set_option maxRecDepth 20000 in
theorem gX7_engrave_X7_size : GoodIn wsX7_engrave (wsV RX7 134 RX7 yX7_size wsX7_size) := goodIn_app (goodIn_of _ (by decide +kernel)) ggX7_engrave_X7_size
set_option maxRecDepth 20000 in
theorem ggX7_engrave_X7_fits : GoodIn wsX7_engrave wsX7_fits := goodIn_r _ [77, 6, 30, 31, 32, 4, 33, 18, 19, 20, 21, 34, 35, 36, 37, 38, 39, 40, 41, 42, 43, 44, 45, 46, 47, 7, 8, 9, 48, 49, 50, 51, 52, 53, 54, 55, 56, 57, 58, 59, 60, 61, 62, 78, 79, 80, 81, 71, 72, 73, 82, 83, 84, 85, 118, 119, 120, 121, 122, 123, 124] (by decide +kernel) (by decide +kernel)
set_option maxRecDepth 20000 in
theorem gX7_engrave_X7_fits : GoodIn wsX7_engrave (wsV RX7 137 RX7 yX7_fits wsX7_fits) := goodIn_app (goodIn_of _ (by decide +kernel)) ggX7_engrave_X7_fits
set_option maxRecDepth 20000 in
theorem ggX7_engrave_X7_isEngraved : GoodIn wsX7_engrave wsX7_isEngraved := goodIn_r _ [89, 18, 19, 20, 4, 21, 6, 118, 119, 120, 121, 122, 123, 124] (by decide +kernel) (by decide +kernel)
set_option maxRecDepth 20000 in
theorem gX7_engrave_X7_isEngraved : GoodIn wsX7_engrave (wsV RX7 109 RX7 yX7_isEngraved wsX7_isEngraved) := goodIn_app (goodIn_of _ (by decide +kernel)) ggX7_engrave_X7_isEngraved
set_option maxRecDepth 20000 in
theorem ggX7_engrave_X7_record : GoodIn wsX7_engrave wsX7_record := goodIn_r _ [93, 94, 95, 6, 118, 119, 120, 121, 122, 123, 124] (by decide +kernel) (by decide +kernel)
set_option maxRecDepth 20000 in
theorem gX7_engrave_X7_record : GoodIn wsX7_engrave (wsV RX7 103 RX7 yX7_record wsX7_record) := goodIn_app (goodIn_of _ (by decide +kernel)) ggX7_engrave_X7_record
set_option maxRecDepth 20000 in
theorem ggX7_engrave_X7_engraves : GoodIn wsX7_engrave wsX7_engraves := goodIn_r _ [99, 6, 118, 119, 120, 121, 122, 123, 124] (by decide +kernel) (by decide +kernel)
set_option maxRecDepth 20000 in
theorem gX7_engrave_X7_engraves : GoodIn wsX7_engrave (wsV RX7 140 RX7 yX7_engraves wsX7_engraves) := goodIn_app (goodIn_of _ (by decide +kernel)) ggX7_engrave_X7_engraves
set_option maxRecDepth 20000 in
theorem ggX7_engrave_X7_begin : GoodIn wsX7_engrave wsX7_begin := goodIn_r _ [103, 104, 105, 106, 4, 107, 18, 19, 20, 21, 6, 38, 39, 40, 41, 108, 109, 110, 45, 46, 47, 7, 8, 9, 34, 35, 36, 37, 42, 43, 44, 48, 49, 50, 51, 52, 53, 54, 55, 56, 57, 58, 59, 60, 61, 62, 111, 112, 113, 114, 78, 79, 80, 81, 71, 72, 73, 115, 116, 117, 30, 31, 32, 33, 118, 119, 120, 121, 122, 123, 124] (by decide +kernel) (by decide +kernel)
set_option maxRecDepth 20000 in
theorem gX7_engrave_X7_begin : GoodIn wsX7_engrave (wsV RX7 144 RX7 yX7_begin wsX7_begin) := goodIn_app (goodIn_of _ (by decide +kernel)) ggX7_engrave_X7_begin
theorem dX7_engrave_0 : decode cX7_engrave 0 = .ok (.aload_n 0, 1) := by decide +kernel
theorem dX7_engrave_1 : decode cX7_engrave 1 = .ok (.iload_n 1, 1) := by decide +kernel
theorem dX7_engrave_2 : decode cX7_engrave 2 = .ok (.invokevirtual 131, 3) := by decide +kernel
theorem dX7_engrave_5 : decode cX7_engrave 5 = .ok (.ifCond .eq 7, 3) := by decide +kernel
theorem dX7_engrave_8 : decode cX7_engrave 8 = .ok (.sipush (-1001), 3) := by decide +kernel
theorem dX7_engrave_11 : decode cX7_engrave 11 = .ok (.ireturn, 1) := by decide +kernel
theorem dX7_engrave_12 : decode cX7_engrave 12 = .ok (.aload_n 0, 1) := by decide +kernel
theorem dX7_engrave_13 : decode cX7_engrave 13 = .ok (.invokevirtual 134, 3) := by decide +kernel
theorem dX7_engrave_16 : decode cX7_engrave 16 = .ok (.istore_n 2, 1) := by decide +kernel
theorem dX7_engrave_17 : decode cX7_engrave 17 = .ok (.aload_n 0, 1) := by decide +kernel
theorem dX7_engrave_18 : decode cX7_engrave 18 = .ok (.iload_n 1, 1) := by decide +kernel
theorem dX7_engrave_19 : decode cX7_engrave 19 = .ok (.iload_n 2, 1) := by decide +kernel
theorem dX7_engrave_20 : decode cX7_engrave 20 = .ok (.invokevirtual 137, 3) := by decide +kernel
theorem dX7_engrave_23 : decode cX7_engrave 23 = .ok (.ifCond .ne 7, 3) := by decide +kernel
theorem dX7_engrave_26 : decode cX7_engrave 26 = .ok (.sipush (-1004), 3) := by decide +kernel
theorem dX7_engrave_29 : decode cX7_engrave 29 = .ok (.ireturn, 1) := by decide +kernel
theorem dX7_engrave_30 : decode cX7_engrave 30 = .ok (.aload_n 0, 1) := by decide +kernel
theorem dX7_engrave_31 : decode cX7_engrave 31 = .ok (.iload_n 1, 1) := by decide +kernel
theorem dX7_engrave_32 : decode cX7_engrave 32 = .ok (.invokevirtual 109, 3) := by decide +kernel
theorem dX7_engrave_35 : decode cX7_engrave 35 = .ok (.ifCond .eq 7, 3) := by decide +kernel
theorem dX7_engrave_38 : decode cX7_engrave 38 = .ok (.sipush (-1005), 3) := by decide +kernel
theorem dX7_engrave_41 : decode cX7_engrave 41 = .ok (.ireturn, 1) := by decide +kernel
theorem dX7_engrave_42 : decode cX7_engrave 42 = .ok (.aload_n 0, 1) := by decide +kernel
theorem dX7_engrave_43 : decode cX7_engrave 43 = .ok (.invokevirtual 103, 3) := by decide +kernel
theorem dX7_engrave_46 : decode cX7_engrave 46 = .ok (.aload_n 0, 1) := by decide +kernel
theorem dX7_engrave_47 : decode cX7_engrave 47 = .ok (.iload_n 1, 1) := by decide +kernel
theorem dX7_engrave_48 : decode cX7_engrave 48 = .ok (.iload_n 2, 1) := by decide +kernel
theorem dX7_engrave_49 : decode cX7_engrave 49 = .ok (.invokevirtual 140, 3) := by decide +kernel
theorem dX7_engrave_52 : decode cX7_engrave 52 = .ok (.aload_n 0, 1) := by decide +kernel
theorem dX7_engrave_53 : decode cX7_engrave 53 = .ok (.iload_n 1, 1) := by decide +kernel
theorem dX7_engrave_54 : decode cX7_engrave 54 = .ok (.iload_n 2, 1) := by decide +kernel
theorem dX7_engrave_55 : decode cX7_engrave 55 = .ok (.invokevirtual 144, 3) := by decide +kernel
theorem dX7_engrave_58 : decode cX7_engrave 58 = .ok (.ireturn, 1) := by decide +kernel
set_option maxRecDepth 20000 in
theorem ggX7_engraveAll_X7_size : GoodIn wsX7_engraveAll wsX7_size := goodIn_r _ [6, 1, 7, 8, 9, 5, 10, 11, 12, 13, 14, 15, 16, 17, 18, 19, 20, 21, 22, 23, 24, 25, 26, 27, 28, 29, 30, 31, 32, 33, 34, 35, 36, 37, 38, 39, 40, 41, 42, 43, 44, 45, 46, 47, 48, 49, 50, 51, 52, 53, 54, 55, 56, 57, 58, 59, 60, 61, 62, 63, 64, 65, 66, 67, 68, 69, 96, 97, 98, 99, 100, 101, 102] (by decide +kernel) (by decide +kernel)
set_option maxRecDepth 20000 in
theorem gX7_engraveAll_X7_size : GoodIn wsX7_engraveAll (wsV RX7 134 RX7 yX7_size wsX7_size) := goodIn_app (goodIn_of _ (by decide +kernel)) ggX7_engraveAll_X7_size
set_option maxRecDepth 20000 in
theorem ggX7_engraveAll_X7_isEngraved : GoodIn wsX7_engraveAll wsX7_isEngraved := goodIn_r _ [73, 11, 12, 13, 5, 14, 1, 96, 97, 98, 99, 100, 101, 102] (by decide +kernel) (by decide +kernel)
set_option maxRecDepth 20000 in
theorem gX7_engraveAll_X7_isEngraved : GoodIn wsX7_engraveAll (wsV RX7 109 RX7 yX7_isEngraved wsX7_isEngraved) := goodIn_app (goodIn_of _ (by decide +kernel)) ggX7_engraveAll_X7_isEngraved
set_option maxRecDepth 20000 in
theorem ggX7_engraveAll_X7_fits : GoodIn wsX7_engraveAll wsX7_fits := goodIn_r _ [77, 1, 23, 24, 25, 5, 26, 11, 12, 13, 14, 27, 28, 29, 30, 31, 32, 33, 34, 35, 36, 37, 38, 39, 40, 41, 42, 43, 44, 45, 46, 47, 48, 49, 50, 51, 52, 53, 54, 55, 56, 57, 58, 78, 79, 80, 81, 67, 68, 69, 82, 83, 84, 85, 96, 97, 98, 99, 100, 101, 102] (by decide +kernel) (by decide +kernel)
set_option maxRecDepth 20000 in
theorem gX7_engraveAll_X7_fits : GoodIn wsX7_engraveAll (wsV RX7 137 RX7 yX7_fits wsX7_fits) := goodIn_app (goodIn_of _ (by decide +kernel)) ggX7_engraveAll_X7_fits
set_option maxRecDepth 20000 in
theorem ggX7_engraveAll_X7_record : GoodIn wsX7_engraveAll wsX7_record := goodIn_r _ [89, 90, 91, 1, 96, 97, 98, 99, 100, 101, 102] (by decide +kernel) (by decide +kernel)
set_option maxRecDepth 20000 in
theorem gX7_engraveAll_X7_record : GoodIn wsX7_engraveAll (wsV RX7 103 RX7 yX7_record wsX7_record) := goodIn_app (goodIn_of _ (by decide +kernel)) ggX7_engraveAll_X7_record
set_option maxRecDepth 20000 in
theorem ggX7_engraveAll_X7_engraves : GoodIn wsX7_engraveAll wsX7_engraves := goodIn_r _ [95, 1, 96, 97, 98, 99, 100, 101, 102] (by decide +kernel) (by decide +kernel)
set_option maxRecDepth 20000 in
theorem gX7_engraveAll_X7_engraves : GoodIn wsX7_engraveAll (wsV RX7 140 RX7 yX7_engraves wsX7_engraves) := goodIn_app (goodIn_of _ (by decide +kernel)) ggX7_engraveAll_X7_engraves
theorem dX7_engraveAll_0 : decode cX7_engraveAll 0 = .ok (.aload_n 0, 1) := by decide +kernel
theorem dX7_engraveAll_1 : decode cX7_engraveAll 1 = .ok (.invokevirtual 134, 3) := by decide +kernel
theorem dX7_engraveAll_4 : decode cX7_engraveAll 4 = .ok (.istore_n 1, 1) := by decide +kernel
theorem dX7_engraveAll_5 : decode cX7_engraveAll 5 = .ok (.iconst 0, 1) := by decide +kernel
theorem dX7_engraveAll_6 : decode cX7_engraveAll 6 = .ok (.istore_n 2, 1) := by decide +kernel
theorem dX7_engraveAll_7 : decode cX7_engraveAll 7 = .ok (.iconst 0, 1) := by decide +kernel
theorem dX7_engraveAll_8 : decode cX7_engraveAll 8 = .ok (.istore_n 3, 1) := by decide +kernel
theorem dX7_engraveAll_9 : decode cX7_engraveAll 9 = .ok (.iload_n 3, 1) := by decide +kernel
theorem dX7_engraveAll_10 : decode cX7_engraveAll 10 = .ok (.aload_n 0, 1) := by decide +kernel
theorem dX7_engraveAll_11 : decode cX7_engraveAll 11 = .ok (.getfield 7, 3) := by decide +kernel
theorem dX7_engraveAll_14 : decode cX7_engraveAll 14 = .ok (.iconst 4, 1) := by decide +kernel
theorem dX7_engraveAll_15 : decode cX7_engraveAll 15 = .ok (.iaload, 1) := by decide +kernel
theorem dX7_engraveAll_16 : decode cX7_engraveAll 16 = .ok (.if_icmp .ge 34, 3) := by decide +kernel
theorem dX7_engraveAll_19 : decode cX7_engraveAll 19 = .ok (.iload_n 2, 1) := by decide +kernel
theorem dX7_engraveAll_20 : decode cX7_engraveAll 20 = .ok (.aload_n 0, 1) := by decide +kernel
theorem dX7_engraveAll_21 : decode cX7_engraveAll 21 = .ok (.iload_n 3, 1) := by decide +kernel
theorem dX7_engraveAll_22 : decode cX7_engraveAll 22 = .ok (.invokevirtual 109, 3) := by decide +kernel
theorem dX7_engraveAll_25 : decode cX7_engraveAll 25 = .ok (.ifCond .ne 16, 3) := by decide +kernel
theorem dX7_engraveAll_28 : decode cX7_engraveAll 28 = .ok (.aload_n 0, 1) := by decide +kernel
theorem dX7_engraveAll_29 : decode cX7_engraveAll 29 = .ok (.iload_n 3, 1) := by decide +kernel
theorem dX7_engraveAll_30 : decode cX7_engraveAll 30 = .ok (.iload_n 1, 1) := by decide +kernel
theorem dX7_engraveAll_31 : decode cX7_engraveAll 31 = .ok (.invokevirtual 137, 3) := by decide +kernel
theorem dX7_engraveAll_34 : decode cX7_engraveAll 34 = .ok (.ifCond .eq 7, 3) := by decide +kernel
theorem dX7_engraveAll_37 : decode cX7_engraveAll 37 = .ok (.iconst 1, 1) := by decide +kernel
theorem dX7_engraveAll_38 : decode cX7_engraveAll 38 = .ok (.goto 4, 3) := by decide +kernel
theorem dX7_engraveAll_41 : decode cX7_engraveAll 41 = .ok (.iconst 0, 1) := by decide +kernel
theorem dX7_engraveAll_42 : decode cX7_engraveAll 42 = .ok (.iadd, 1) := by decide +kernel
theorem dX7_engraveAll_43 : decode cX7_engraveAll 43 = .ok (.istore_n 2, 1) := by decide +kernel
theorem dX7_engraveAll_44 : decode cX7_engraveAll 44 = .ok (.iinc 3 1, 3) := by decide +kernel
theorem dX7_engraveAll_47 : decode cX7_engraveAll 47 = .ok (.goto (-38), 3) := by decide +kernel
theorem dX7_engraveAll_50 : decode cX7_engraveAll 50 = .ok (.iload_n 2, 1) := by decide +kernel
theorem dX7_engraveAll_51 : decode cX7_engraveAll 51 = .ok (.ifCond .ne 7, 3) := by decide +kernel
theorem dX7_engraveAll_54 : decode cX7_engraveAll 54 = .ok (.sipush (-1005), 3) := by decide +kernel
theorem dX7_engraveAll_57 : decode cX7_engraveAll 57 = .ok (.ireturn, 1) := by decide +kernel
theorem dX7_engraveAll_58 : decode cX7_engraveAll 58 = .ok (.aload_n 0, 1) := by decide +kernel
theorem dX7_engraveAll_59 : decode cX7_engraveAll 59 = .ok (.invokevirtual 103, 3) := by decide +kernel
theorem dX7_engraveAll_62 : decode cX7_engraveAll 62 = .ok (.iconst 0, 1) := by decide +kernel
theorem dX7_engraveAll_63 : decode cX7_engraveAll 63 = .ok (.istore_n 3, 1) := by decide +kernel
theorem dX7_engraveAll_64 : decode cX7_engraveAll 64 = .ok (.iload_n 3, 1) := by decide +kernel
theorem dX7_engraveAll_65 : decode cX7_engraveAll 65 = .ok (.aload_n 0, 1) := by decide +kernel
theorem dX7_engraveAll_66 : decode cX7_engraveAll 66 = .ok (.getfield 7, 3) := by decide +kernel
theorem dX7_engraveAll_69 : decode cX7_engraveAll 69 = .ok (.iconst 4, 1) := by decide +kernel
theorem dX7_engraveAll_70 : decode cX7_engraveAll 70 = .ok (.iaload, 1) := by decide +kernel
theorem dX7_engraveAll_71 : decode cX7_engraveAll 71 = .ok (.if_icmp .ge 32, 3) := by decide +kernel
theorem dX7_engraveAll_74 : decode cX7_engraveAll 74 = .ok (.aload_n 0, 1) := by decide +kernel
theorem dX7_engraveAll_75 : decode cX7_engraveAll 75 = .ok (.iload_n 3, 1) := by decide +kernel
theorem dX7_engraveAll_76 : decode cX7_engraveAll 76 = .ok (.invokevirtual 109, 3) := by decide +kernel
theorem dX7_engraveAll_79 : decode cX7_engraveAll 79 = .ok (.ifCond .ne 18, 3) := by decide +kernel
theorem dX7_engraveAll_82 : decode cX7_engraveAll 82 = .ok (.aload_n 0, 1) := by decide +kernel
theorem dX7_engraveAll_83 : decode cX7_engraveAll 83 = .ok (.iload_n 3, 1) := by decide +kernel
theorem dX7_engraveAll_84 : decode cX7_engraveAll 84 = .ok (.iload_n 1, 1) := by decide +kernel
theorem dX7_engraveAll_85 : decode cX7_engraveAll 85 = .ok (.invokevirtual 137, 3) := by decide +kernel
theorem dX7_engraveAll_88 : decode cX7_engraveAll 88 = .ok (.ifCond .eq 9, 3) := by decide +kernel
theorem dX7_engraveAll_91 : decode cX7_engraveAll 91 = .ok (.aload_n 0, 1) := by decide +kernel
theorem dX7_engraveAll_92 : decode cX7_engraveAll 92 = .ok (.iload_n 3, 1) := by decide +kernel
theorem dX7_engraveAll_93 : decode cX7_engraveAll 93 = .ok (.iload_n 1, 1) := by decide +kernel
theorem dX7_engraveAll_94 : decode cX7_engraveAll 94 = .ok (.invokevirtual 140, 3) := by decide +kernel
theorem dX7_engraveAll_97 : decode cX7_engraveAll 97 = .ok (.iinc 3 1, 3) := by decide +kernel
theorem dX7_engraveAll_100 : decode cX7_engraveAll 100 = .ok (.goto (-36), 3) := by decide +kernel
theorem dX7_engraveAll_103 : decode cX7_engraveAll 103 = .ok (.iload_n 2, 1) := by decide +kernel
theorem dX7_engraveAll_104 : decode cX7_engraveAll 104 = .ok (.ireturn, 1) := by decide +kernel
theorem dX7_undo_0 : decode cX7_undo 0 = .ok (.aload_n 0, 1) := by decide +kernel
theorem dX7_undo_1 : decode cX7_undo 1 = .ok (.getfield 23, 3) := by decide +kernel
theorem dX7_undo_4 : decode cX7_undo 4 = .ok (.ifCond .ne 7, 3) := by decide +kernel
theorem dX7_undo_7 : decode cX7_undo 7 = .ok (.sipush (-1005), 3) := by decide +kernel
theorem dX7_undo_10 : decode cX7_undo 10 = .ok (.ireturn, 1) := by decide +kernel
theorem dX7_undo_11 : decode cX7_undo 11 = .ok (.aload_n 0, 1) := by decide +kernel
theorem dX7_undo_12 : decode cX7_undo 12 = .ok (.dup, 1) := by decide +kernel
theorem dX7_undo_13 : decode cX7_undo 13 = .ok (.getfield 23, 3) := by decide +kernel
theorem dX7_undo_16 : decode cX7_undo 16 = .ok (.iconst 1, 1) := by decide +kernel
theorem dX7_undo_17 : decode cX7_undo 17 = .ok (.isub, 1) := by decide +kernel
theorem dX7_undo_18 : decode cX7_undo 18 = .ok (.putfield 23, 3) := by decide +kernel
theorem dX7_undo_21 : decode cX7_undo 21 = .ok (.iconst 0, 1) := by decide +kernel
theorem dX7_undo_22 : decode cX7_undo 22 = .ok (.istore_n 1, 1) := by decide +kernel
theorem dX7_undo_23 : decode cX7_undo 23 = .ok (.iload_n 1, 1) := by decide +kernel
theorem dX7_undo_24 : decode cX7_undo 24 = .ok (.sipush 417, 3) := by decide +kernel
theorem dX7_undo_27 : decode cX7_undo 27 = .ok (.if_icmp .ge 30, 3) := by decide +kernel
theorem dX7_undo_30 : decode cX7_undo 30 = .ok (.aload_n 0, 1) := by decide +kernel
theorem dX7_undo_31 : decode cX7_undo 31 = .ok (.getfield 7, 3) := by decide +kernel
theorem dX7_undo_34 : decode cX7_undo 34 = .ok (.iload_n 1, 1) := by decide +kernel
theorem dX7_undo_35 : decode cX7_undo 35 = .ok (.aload_n 0, 1) := by decide +kernel
theorem dX7_undo_36 : decode cX7_undo 36 = .ok (.getfield 13, 3) := by decide +kernel
theorem dX7_undo_39 : decode cX7_undo 39 = .ok (.sipush 417, 3) := by decide +kernel
theorem dX7_undo_42 : decode cX7_undo 42 = .ok (.aload_n 0, 1) := by decide +kernel
theorem dX7_undo_43 : decode cX7_undo 43 = .ok (.getfield 23, 3) := by decide +kernel
theorem dX7_undo_46 : decode cX7_undo 46 = .ok (.imul, 1) := by decide +kernel
theorem dX7_undo_47 : decode cX7_undo 47 = .ok (.iload_n 1, 1) := by decide +kernel
theorem dX7_undo_48 : decode cX7_undo 48 = .ok (.iadd, 1) := by decide +kernel
theorem dX7_undo_49 : decode cX7_undo 49 = .ok (.iaload, 1) := by decide +kernel
theorem dX7_undo_50 : decode cX7_undo 50 = .ok (.iastore, 1) := by decide +kernel
theorem dX7_undo_51 : decode cX7_undo 51 = .ok (.iinc 1 1, 3) := by decide +kernel
theorem dX7_undo_54 : decode cX7_undo 54 = .ok (.goto (-31), 3) := by decide +kernel
theorem dX7_undo_57 : decode cX7_undo 57 = .ok (.aload_n 0, 1) := by decide +kernel
theorem dX7_undo_58 : decode cX7_undo 58 = .ok (.getfield 23, 3) := by decide +kernel
theorem dX7_undo_61 : decode cX7_undo 61 = .ok (.ireturn, 1) := by decide +kernel
theorem dX7_keep_0 : decode cX7_keep 0 = .ok (.iconst 0, 1) := by decide +kernel
theorem dX7_keep_1 : decode cX7_keep 1 = .ok (.istore_n 1, 1) := by decide +kernel
theorem dX7_keep_2 : decode cX7_keep 2 = .ok (.iload_n 1, 1) := by decide +kernel
theorem dX7_keep_3 : decode cX7_keep 3 = .ok (.sipush 417, 3) := by decide +kernel
theorem dX7_keep_6 : decode cX7_keep 6 = .ok (.if_icmp .ge 21, 3) := by decide +kernel
theorem dX7_keep_9 : decode cX7_keep 9 = .ok (.aload_n 0, 1) := by decide +kernel
theorem dX7_keep_10 : decode cX7_keep 10 = .ok (.getfield 16, 3) := by decide +kernel
theorem dX7_keep_13 : decode cX7_keep 13 = .ok (.iload_n 1, 1) := by decide +kernel
theorem dX7_keep_14 : decode cX7_keep 14 = .ok (.aload_n 0, 1) := by decide +kernel
theorem dX7_keep_15 : decode cX7_keep 15 = .ok (.getfield 7, 3) := by decide +kernel
theorem dX7_keep_18 : decode cX7_keep 18 = .ok (.iload_n 1, 1) := by decide +kernel
theorem dX7_keep_19 : decode cX7_keep 19 = .ok (.iaload, 1) := by decide +kernel
theorem dX7_keep_20 : decode cX7_keep 20 = .ok (.iastore, 1) := by decide +kernel
theorem dX7_keep_21 : decode cX7_keep 21 = .ok (.iinc 1 1, 3) := by decide +kernel
theorem dX7_keep_24 : decode cX7_keep 24 = .ok (.goto (-22), 3) := by decide +kernel
theorem dX7_keep_27 : decode cX7_keep 27 = .ok (.aload_n 0, 1) := by decide +kernel
theorem dX7_keep_28 : decode cX7_keep 28 = .ok (.iconst 1, 1) := by decide +kernel
theorem dX7_keep_29 : decode cX7_keep 29 = .ok (.putfield 147, 3) := by decide +kernel
theorem dX7_keep_32 : decode cX7_keep 32 = .ok (.aload_n 0, 1) := by decide +kernel
theorem dX7_keep_33 : decode cX7_keep 33 = .ok (.getfield 7, 3) := by decide +kernel
theorem dX7_keep_36 : decode cX7_keep 36 = .ok (.iconst 4, 1) := by decide +kernel
theorem dX7_keep_37 : decode cX7_keep 37 = .ok (.iaload, 1) := by decide +kernel
theorem dX7_keep_38 : decode cX7_keep 38 = .ok (.ireturn, 1) := by decide +kernel
set_option maxRecDepth 20000 in
theorem ggX7_restore_X7_record : GoodIn wsX7_restore wsX7_record := goodIn_r _ [8, 9, 10, 2, 11, 12, 13, 14, 15, 16, 17] (by decide +kernel) (by decide +kernel)
set_option maxRecDepth 20000 in
theorem gX7_restore_X7_record : GoodIn wsX7_restore (wsV RX7 103 RX7 yX7_record wsX7_record) := goodIn_app (goodIn_of _ (by decide +kernel)) ggX7_restore_X7_record
theorem dX7_restore_0 : decode cX7_restore 0 = .ok (.aload_n 0, 1) := by decide +kernel
theorem dX7_restore_1 : decode cX7_restore 1 = .ok (.getfield 147, 3) := by decide +kernel
theorem dX7_restore_4 : decode cX7_restore 4 = .ok (.ifCond .ne 7, 3) := by decide +kernel
theorem dX7_restore_7 : decode cX7_restore 7 = .ok (.sipush (-1005), 3) := by decide +kernel
theorem dX7_restore_10 : decode cX7_restore 10 = .ok (.ireturn, 1) := by decide +kernel
theorem dX7_restore_11 : decode cX7_restore 11 = .ok (.aload_n 0, 1) := by decide +kernel
theorem dX7_restore_12 : decode cX7_restore 12 = .ok (.invokevirtual 103, 3) := by decide +kernel
theorem dX7_restore_15 : decode cX7_restore 15 = .ok (.iconst 0, 1) := by decide +kernel
theorem dX7_restore_16 : decode cX7_restore 16 = .ok (.istore_n 1, 1) := by decide +kernel
theorem dX7_restore_17 : decode cX7_restore 17 = .ok (.iload_n 1, 1) := by decide +kernel
theorem dX7_restore_18 : decode cX7_restore 18 = .ok (.sipush 417, 3) := by decide +kernel
theorem dX7_restore_21 : decode cX7_restore 21 = .ok (.if_icmp .ge 21, 3) := by decide +kernel
theorem dX7_restore_24 : decode cX7_restore 24 = .ok (.aload_n 0, 1) := by decide +kernel
theorem dX7_restore_25 : decode cX7_restore 25 = .ok (.getfield 7, 3) := by decide +kernel
theorem dX7_restore_28 : decode cX7_restore 28 = .ok (.iload_n 1, 1) := by decide +kernel
theorem dX7_restore_29 : decode cX7_restore 29 = .ok (.aload_n 0, 1) := by decide +kernel
theorem dX7_restore_30 : decode cX7_restore 30 = .ok (.getfield 16, 3) := by decide +kernel
theorem dX7_restore_33 : decode cX7_restore 33 = .ok (.iload_n 1, 1) := by decide +kernel
theorem dX7_restore_34 : decode cX7_restore 34 = .ok (.iaload, 1) := by decide +kernel
theorem dX7_restore_35 : decode cX7_restore 35 = .ok (.iastore, 1) := by decide +kernel
theorem dX7_restore_36 : decode cX7_restore 36 = .ok (.iinc 1 1, 3) := by decide +kernel
theorem dX7_restore_39 : decode cX7_restore 39 = .ok (.goto (-22), 3) := by decide +kernel
theorem dX7_restore_42 : decode cX7_restore 42 = .ok (.aload_n 0, 1) := by decide +kernel
theorem dX7_restore_43 : decode cX7_restore 43 = .ok (.getfield 7, 3) := by decide +kernel
theorem dX7_restore_46 : decode cX7_restore 46 = .ok (.iconst 4, 1) := by decide +kernel
theorem dX7_restore_47 : decode cX7_restore 47 = .ok (.iaload, 1) := by decide +kernel
theorem dX7_restore_48 : decode cX7_restore 48 = .ok (.ireturn, 1) := by decide +kernel
set_option maxRecDepth 20000 in
theorem ggX7_name_X7_noSeat : GoodIn wsX7_name wsX7_noSeat := goodIn_r _ [6, 1, 7, 8, 5, 9, 104, 105, 106, 107, 108, 109, 110] (by decide +kernel) (by decide +kernel)
set_option maxRecDepth 20000 in
theorem gX7_name_X7_noSeat : GoodIn wsX7_name (wsV RX7 131 RX7 yX7_noSeat wsX7_noSeat) := goodIn_app (goodIn_of _ (by decide +kernel)) ggX7_name_X7_noSeat
set_option maxRecDepth 20000 in
theorem ggX7_name_X7_size : GoodIn wsX7_name wsX7_size := goodIn_r _ [13, 1, 14, 15, 16, 5, 17, 18, 19, 20, 21, 22, 23, 24, 25, 26, 27, 28, 29, 30, 31, 32, 33, 34, 35, 36, 37, 38, 39, 40, 41, 42, 43, 44, 45, 46, 47, 7, 8, 9, 48, 49, 50, 51, 52, 53, 54, 55, 56, 57, 58, 59, 60, 61, 62, 63, 64, 65, 66, 67, 68, 69, 70, 71, 72, 73, 104, 105, 106, 107, 108, 109, 110] (by decide +kernel) (by decide +kernel)
set_option maxRecDepth 20000 in
theorem gX7_name_X7_size : GoodIn wsX7_name (wsV RX7 134 RX7 yX7_size wsX7_size) := goodIn_app (goodIn_of _ (by decide +kernel)) ggX7_name_X7_size
set_option maxRecDepth 20000 in
theorem ggX7_name_X7_of : GoodIn wsX7_name wsX7_of := goodIn_r _ [21, 1, 104, 105, 106, 107, 108, 109, 110] (by decide +kernel) (by decide +kernel)
set_option maxRecDepth 20000 in
theorem gX7_name_X7_of : GoodIn wsX7_name (wsV RX7 46 RX7 yX7_of wsX7_of) := goodIn_app (goodIn_of _ (by decide +kernel)) ggX7_name_X7_of
set_option maxRecDepth 20000 in
theorem ggX7_name_X7_units : GoodIn wsX7_name wsX7_units := goodIn_r _ [33, 18, 19, 20, 5, 21, 1, 34, 35, 36, 37, 38, 39, 40, 41, 42, 43, 44, 45, 46, 47, 7, 8, 9, 48, 49, 50, 51, 52, 53, 54, 55, 56, 57, 58, 59, 60, 61, 62, 104, 105, 106, 107, 108, 109, 110] (by decide +kernel) (by decide +kernel)
set_option maxRecDepth 20000 in
theorem gX7_name_X7_units : GoodIn wsX7_name (wsV RX7 68 RX7 yX7_units wsX7_units) := goodIn_app (goodIn_of _ (by decide +kernel)) ggX7_name_X7_units
set_option maxRecDepth 20000 in
theorem ggX7_name_X7_rowOf : GoodIn wsX7_name wsX7_rowOf := goodIn_r _ [77, 1, 104, 105, 106, 107, 108, 109, 110] (by decide +kernel) (by decide +kernel)
set_option maxRecDepth 20000 in
theorem gX7_name_X7_rowOf : GoodIn wsX7_name (wsV RX7 91 RX7 yX7_rowOf wsX7_rowOf) := goodIn_app (goodIn_of _ (by decide +kernel)) ggX7_name_X7_rowOf
set_option maxRecDepth 20000 in
theorem ggX7_name_X7_begin : GoodIn wsX7_name wsX7_begin := goodIn_r _ [81, 82, 83, 84, 5, 85, 18, 19, 20, 21, 1, 38, 39, 40, 41, 86, 87, 88, 45, 46, 47, 7, 8, 9, 34, 35, 36, 37, 42, 43, 44, 48, 49, 50, 51, 52, 53, 54, 55, 56, 57, 58, 59, 60, 61, 62, 89, 90, 91, 92, 93, 94, 95, 96, 71, 72, 73, 97, 98, 99, 30, 31, 32, 33, 104, 105, 106, 107, 108, 109, 110] (by decide +kernel) (by decide +kernel)
set_option maxRecDepth 20000 in
theorem gX7_name_X7_begin : GoodIn wsX7_name (wsV RX7 144 RX7 yX7_begin wsX7_begin) := goodIn_app (goodIn_of _ (by decide +kernel)) ggX7_name_X7_begin
set_option maxRecDepth 20000 in
theorem ggX7_name_X7_fits : GoodIn wsX7_name wsX7_fits := goodIn_r _ [103, 1, 30, 31, 32, 5, 33, 18, 19, 20, 21, 34, 35, 36, 37, 38, 39, 40, 41, 42, 43, 44, 45, 46, 47, 7, 8, 9, 48, 49, 50, 51, 52, 53, 54, 55, 56, 57, 58, 59, 60, 61, 62, 93, 94, 95, 96, 71, 72, 73, 74, 75, 76, 77, 104, 105, 106, 107, 108, 109, 110] (by decide +kernel) (by decide +kernel)
set_option maxRecDepth 20000 in
theorem gX7_name_X7_fits : GoodIn wsX7_name (wsV RX7 137 RX7 yX7_fits wsX7_fits) := goodIn_app (goodIn_of _ (by decide +kernel)) ggX7_name_X7_fits
set_option maxRecDepth 20000 in
theorem ggX7_name_X7_columnBegin : GoodIn wsX7_name wsX7_columnBegin := goodIn_r _ [92, 1, 93, 94, 95, 5, 96, 71, 72, 73, 104, 105, 106, 107, 108, 109, 110] (by decide +kernel) (by decide +kernel)
set_option maxRecDepth 20000 in
theorem gX7_name_X7_columnBegin : GoodIn wsX7_name (wsV RX7 97 RX7 yX7_columnBegin wsX7_columnBegin) := goodIn_app (goodIn_of _ (by decide +kernel)) ggX7_name_X7_columnBegin
set_option maxRecDepth 20000 in
theorem ggX7_name_X7_column : GoodIn wsX7_name wsX7_column := goodIn_r _ [96, 1, 71, 72, 5, 73, 104, 105, 106, 107, 108, 109, 110] (by decide +kernel) (by decide +kernel)
set_option maxRecDepth 20000 in
theorem gX7_name_X7_column : GoodIn wsX7_name (wsV RX7 88 RX7 yX7_column wsX7_column) := goodIn_app (goodIn_of _ (by decide +kernel)) ggX7_name_X7_column
set_option maxRecDepth 20000 in
theorem ggX7_name_X7_down : GoodIn wsX7_name wsX7_down := goodIn_r _ [99] (by decide +kernel) (by decide +kernel)
set_option maxRecDepth 20000 in
theorem gX7_name_X7_down : GoodIn wsX7_name (va_wsS RX7 100 yX7_down wsX7_down) := goodIn_app (goodIn_of _ (by decide +kernel)) ggX7_name_X7_down
set_option maxRecDepth 20000 in
theorem ggX7_name_X7_inkOf : GoodIn wsX7_name wsX7_inkOf := goodIn_r _ [85, 18, 19, 20, 5, 21, 1, 38, 39, 40, 41, 86, 87, 88, 45, 46, 47, 7, 8, 9, 104, 105, 106, 107, 108, 109, 110] (by decide +kernel) (by decide +kernel)
set_option maxRecDepth 20000 in
theorem gX7_name_X7_inkOf : GoodIn wsX7_name (wsV RX7 94 RX7 yX7_inkOf wsX7_inkOf) := goodIn_app (goodIn_of _ (by decide +kernel)) ggX7_name_X7_inkOf
theorem dX7_name_0 : decode cX7_name 0 = .ok (.aload_n 0, 1) := by decide +kernel
theorem dX7_name_1 : decode cX7_name 1 = .ok (.iload_n 1, 1) := by decide +kernel
theorem dX7_name_2 : decode cX7_name 2 = .ok (.invokevirtual 131, 3) := by decide +kernel
theorem dX7_name_5 : decode cX7_name 5 = .ok (.ifCond .eq 7, 3) := by decide +kernel
theorem dX7_name_8 : decode cX7_name 8 = .ok (.sipush (-1001), 3) := by decide +kernel
theorem dX7_name_11 : decode cX7_name 11 = .ok (.ireturn, 1) := by decide +kernel
theorem dX7_name_12 : decode cX7_name 12 = .ok (.aload_n 0, 1) := by decide +kernel
theorem dX7_name_13 : decode cX7_name 13 = .ok (.invokevirtual 134, 3) := by decide +kernel
theorem dX7_name_16 : decode cX7_name 16 = .ok (.istore_n 3, 1) := by decide +kernel
theorem dX7_name_17 : decode cX7_name 17 = .ok (.iload_n 3, 1) := by decide +kernel
theorem dX7_name_18 : decode cX7_name 18 = .ok (.ifCond .ne 30, 3) := by decide +kernel
theorem dX7_name_21 : decode cX7_name 21 = .ok (.iload_n 2, 1) := by decide +kernel
theorem dX7_name_22 : decode cX7_name 22 = .ok (.iconst 5, 1) := by decide +kernel
theorem dX7_name_23 : decode cX7_name 23 = .ok (.if_icmp .eq 21, 3) := by decide +kernel
theorem dX7_name_26 : decode cX7_name 26 = .ok (.iload_n 2, 1) := by decide +kernel
theorem dX7_name_27 : decode cX7_name 27 = .ok (.bipush 6, 2) := by decide +kernel
theorem dX7_name_29 : decode cX7_name 29 = .ok (.if_icmp .eq 15, 3) := by decide +kernel
theorem dX7_name_32 : decode cX7_name 32 = .ok (.iload_n 2, 1) := by decide +kernel
theorem dX7_name_33 : decode cX7_name 33 = .ok (.bipush 8, 2) := by decide +kernel
theorem dX7_name_35 : decode cX7_name 35 = .ok (.if_icmp .eq 9, 3) := by decide +kernel
theorem dX7_name_38 : decode cX7_name 38 = .ok (.iload_n 2, 1) := by decide +kernel
theorem dX7_name_39 : decode cX7_name 39 = .ok (.bipush 9, 2) := by decide +kernel
theorem dX7_name_41 : decode cX7_name 41 = .ok (.if_icmp .ne 7, 3) := by decide +kernel
theorem dX7_name_44 : decode cX7_name 44 = .ok (.sipush (-1005), 3) := by decide +kernel
theorem dX7_name_47 : decode cX7_name 47 = .ok (.ireturn, 1) := by decide +kernel
theorem dX7_name_48 : decode cX7_name 48 = .ok (.iload_n 2, 1) := by decide +kernel
theorem dX7_name_49 : decode cX7_name 49 = .ok (.tableswitch 193 0 10 #[59, 66, 72, 79, 85, 94, 101, 119, 134, 142, 187], 59) := by decide +kernel
theorem dX7_name_108 : decode cX7_name 108 = .ok (.aload_n 0, 1) := by decide +kernel
theorem dX7_name_109 : decode cX7_name 109 = .ok (.iload_n 1, 1) := by decide +kernel
theorem dX7_name_110 : decode cX7_name 110 = .ok (.iconst 0, 1) := by decide +kernel
theorem dX7_name_111 : decode cX7_name 111 = .ok (.invokevirtual 46, 3) := by decide +kernel
theorem dX7_name_114 : decode cX7_name 114 = .ok (.ireturn, 1) := by decide +kernel
theorem dX7_name_115 : decode cX7_name 115 = .ok (.aload_n 0, 1) := by decide +kernel
theorem dX7_name_116 : decode cX7_name 116 = .ok (.iload_n 1, 1) := by decide +kernel
theorem dX7_name_117 : decode cX7_name 117 = .ok (.invokevirtual 68, 3) := by decide +kernel
theorem dX7_name_120 : decode cX7_name 120 = .ok (.ireturn, 1) := by decide +kernel
theorem dX7_name_121 : decode cX7_name 121 = .ok (.aload_n 0, 1) := by decide +kernel
theorem dX7_name_122 : decode cX7_name 122 = .ok (.iload_n 1, 1) := by decide +kernel
theorem dX7_name_123 : decode cX7_name 123 = .ok (.iconst 1, 1) := by decide +kernel
theorem dX7_name_124 : decode cX7_name 124 = .ok (.invokevirtual 46, 3) := by decide +kernel
theorem dX7_name_127 : decode cX7_name 127 = .ok (.ireturn, 1) := by decide +kernel
theorem dX7_name_128 : decode cX7_name 128 = .ok (.aload_n 0, 1) := by decide +kernel
theorem dX7_name_129 : decode cX7_name 129 = .ok (.iload_n 1, 1) := by decide +kernel
theorem dX7_name_130 : decode cX7_name 130 = .ok (.invokevirtual 91, 3) := by decide +kernel
theorem dX7_name_133 : decode cX7_name 133 = .ok (.ireturn, 1) := by decide +kernel
theorem dX7_name_134 : decode cX7_name 134 = .ok (.iload_n 1, 1) := by decide +kernel
theorem dX7_name_135 : decode cX7_name 135 = .ok (.aload_n 0, 1) := by decide +kernel
theorem dX7_name_136 : decode cX7_name 136 = .ok (.getfield 7, 3) := by decide +kernel
theorem dX7_name_139 : decode cX7_name 139 = .ok (.iconst 3, 1) := by decide +kernel
theorem dX7_name_140 : decode cX7_name 140 = .ok (.iaload, 1) := by decide +kernel
theorem dX7_name_141 : decode cX7_name 141 = .ok (.irem, 1) := by decide +kernel
theorem dX7_name_142 : decode cX7_name 142 = .ok (.ireturn, 1) := by decide +kernel
theorem dX7_name_143 : decode cX7_name 143 = .ok (.aload_n 0, 1) := by decide +kernel
theorem dX7_name_144 : decode cX7_name 144 = .ok (.iload_n 1, 1) := by decide +kernel
theorem dX7_name_145 : decode cX7_name 145 = .ok (.iload_n 3, 1) := by decide +kernel
theorem dX7_name_146 : decode cX7_name 146 = .ok (.invokevirtual 144, 3) := by decide +kernel
theorem dX7_name_149 : decode cX7_name 149 = .ok (.ireturn, 1) := by decide +kernel
theorem dX7_name_150 : decode cX7_name 150 = .ok (.aload_n 0, 1) := by decide +kernel
theorem dX7_name_151 : decode cX7_name 151 = .ok (.getfield 7, 3) := by decide +kernel
theorem dX7_name_154 : decode cX7_name 154 = .ok (.iconst 2, 1) := by decide +kernel
theorem dX7_name_155 : decode cX7_name 155 = .ok (.iaload, 1) := by decide +kernel
theorem dX7_name_156 : decode cX7_name 156 = .ok (.bipush 12, 2) := by decide +kernel
theorem dX7_name_158 : decode cX7_name 158 = .ok (.iload_n 3, 1) := by decide +kernel
theorem dX7_name_159 : decode cX7_name 159 = .ok (.imul, 1) := by decide +kernel
theorem dX7_name_160 : decode cX7_name 160 = .ok (.aload_n 0, 1) := by decide +kernel
theorem dX7_name_161 : decode cX7_name 161 = .ok (.iload_n 1, 1) := by decide +kernel
theorem dX7_name_162 : decode cX7_name 162 = .ok (.invokevirtual 91, 3) := by decide +kernel
theorem dX7_name_165 : decode cX7_name 165 = .ok (.imul, 1) := by decide +kernel
theorem dX7_name_166 : decode cX7_name 166 = .ok (.iadd, 1) := by decide +kernel
theorem dX7_name_167 : decode cX7_name 167 = .ok (.ireturn, 1) := by decide +kernel
theorem dX7_name_168 : decode cX7_name 168 = .ok (.aload_n 0, 1) := by decide +kernel
theorem dX7_name_169 : decode cX7_name 169 = .ok (.iload_n 1, 1) := by decide +kernel
theorem dX7_name_170 : decode cX7_name 170 = .ok (.iload_n 3, 1) := by decide +kernel
theorem dX7_name_171 : decode cX7_name 171 = .ok (.invokevirtual 137, 3) := by decide +kernel
theorem dX7_name_174 : decode cX7_name 174 = .ok (.ifCond .eq 7, 3) := by decide +kernel
theorem dX7_name_177 : decode cX7_name 177 = .ok (.iconst 1, 1) := by decide +kernel
theorem dX7_name_178 : decode cX7_name 178 = .ok (.goto 4, 3) := by decide +kernel
theorem dX7_name_181 : decode cX7_name 181 = .ok (.iconst 0, 1) := by decide +kernel
theorem dX7_name_182 : decode cX7_name 182 = .ok (.ireturn, 1) := by decide +kernel
theorem dX7_name_183 : decode cX7_name 183 = .ok (.aload_n 0, 1) := by decide +kernel
theorem dX7_name_184 : decode cX7_name 184 = .ok (.iload_n 1, 1) := by decide +kernel
theorem dX7_name_185 : decode cX7_name 185 = .ok (.invokevirtual 68, 3) := by decide +kernel
theorem dX7_name_188 : decode cX7_name 188 = .ok (.iload_n 3, 1) := by decide +kernel
theorem dX7_name_189 : decode cX7_name 189 = .ok (.imul, 1) := by decide +kernel
theorem dX7_name_190 : decode cX7_name 190 = .ok (.ireturn, 1) := by decide +kernel
theorem dX7_name_191 : decode cX7_name 191 = .ok (.aload_n 0, 1) := by decide +kernel
theorem dX7_name_192 : decode cX7_name 192 = .ok (.iload_n 1, 1) := by decide +kernel
theorem dX7_name_193 : decode cX7_name 193 = .ok (.invokevirtual 97, 3) := by decide +kernel
theorem dX7_name_196 : decode cX7_name 196 = .ok (.aload_n 0, 1) := by decide +kernel
theorem dX7_name_197 : decode cX7_name 197 = .ok (.invokevirtual 88, 3) := by decide +kernel
theorem dX7_name_200 : decode cX7_name 200 = .ok (.aload_n 0, 1) := by decide +kernel
theorem dX7_name_201 : decode cX7_name 201 = .ok (.iload_n 1, 1) := by decide +kernel
theorem dX7_name_202 : decode cX7_name 202 = .ok (.invokevirtual 68, 3) := by decide +kernel
theorem dX7_name_205 : decode cX7_name 205 = .ok (.iload_n 3, 1) := by decide +kernel
theorem dX7_name_206 : decode cX7_name 206 = .ok (.imul, 1) := by decide +kernel
theorem dX7_name_207 : decode cX7_name 207 = .ok (.isub, 1) := by decide +kernel
theorem dX7_name_208 : decode cX7_name 208 = .ok (.iconst 2, 1) := by decide +kernel
theorem dX7_name_209 : decode cX7_name 209 = .ok (.invokestatic 100, 3) := by decide +kernel
theorem dX7_name_212 : decode cX7_name 212 = .ok (.iadd, 1) := by decide +kernel
theorem dX7_name_213 : decode cX7_name 213 = .ok (.istore 4, 2) := by decide +kernel
theorem dX7_name_215 : decode cX7_name 215 = .ok (.iload 4, 2) := by decide +kernel
theorem dX7_name_217 : decode cX7_name 217 = .ok (.aload_n 0, 1) := by decide +kernel
theorem dX7_name_218 : decode cX7_name 218 = .ok (.iload_n 1, 1) := by decide +kernel
theorem dX7_name_219 : decode cX7_name 219 = .ok (.invokevirtual 97, 3) := by decide +kernel
theorem dX7_name_222 : decode cX7_name 222 = .ok (.if_icmp .ge 11, 3) := by decide +kernel
theorem dX7_name_225 : decode cX7_name 225 = .ok (.aload_n 0, 1) := by decide +kernel
theorem dX7_name_226 : decode cX7_name 226 = .ok (.iload_n 1, 1) := by decide +kernel
theorem dX7_name_227 : decode cX7_name 227 = .ok (.invokevirtual 97, 3) := by decide +kernel
theorem dX7_name_230 : decode cX7_name 230 = .ok (.goto 5, 3) := by decide +kernel
theorem dX7_name_233 : decode cX7_name 233 = .ok (.iload 4, 2) := by decide +kernel
theorem dX7_name_235 : decode cX7_name 235 = .ok (.ireturn, 1) := by decide +kernel
theorem dX7_name_236 : decode cX7_name 236 = .ok (.aload_n 0, 1) := by decide +kernel
theorem dX7_name_237 : decode cX7_name 237 = .ok (.iload_n 1, 1) := by decide +kernel
theorem dX7_name_238 : decode cX7_name 238 = .ok (.invokevirtual 94, 3) := by decide +kernel
theorem dX7_name_241 : decode cX7_name 241 = .ok (.ireturn, 1) := by decide +kernel
theorem dX7_name_242 : decode cX7_name 242 = .ok (.sipush (-1002), 3) := by decide +kernel
theorem dX7_name_245 : decode cX7_name 245 = .ok (.ireturn, 1) := by decide +kernel
set_option maxRecDepth 20000 in
theorem ggX7_sign_X7_noSeat : GoodIn wsX7_sign wsX7_noSeat := goodIn_r _ [5, 6, 7, 8, 4, 9, 96, 97, 98, 99, 100, 101, 102] (by decide +kernel) (by decide +kernel)
set_option maxRecDepth 20000 in
theorem gX7_sign_X7_noSeat : GoodIn wsX7_sign (wsV RX7 131 RX7 yX7_noSeat wsX7_noSeat) := goodIn_app (goodIn_of _ (by decide +kernel)) ggX7_sign_X7_noSeat
set_option maxRecDepth 20000 in
theorem ggX7_sign_X7_of : GoodIn wsX7_sign wsX7_of := goodIn_r _ [13, 6, 96, 97, 98, 99, 100, 101, 102] (by decide +kernel) (by decide +kernel)
set_option maxRecDepth 20000 in
theorem gX7_sign_X7_of : GoodIn wsX7_sign (wsV RX7 46 RX7 yX7_of wsX7_of) := goodIn_app (goodIn_of _ (by decide +kernel)) ggX7_sign_X7_of
set_option maxRecDepth 20000 in
theorem ggX7_sign_X7_in : GoodIn wsX7_sign wsX7_in := goodIn_r _ [9] (by decide +kernel) (by decide +kernel)
set_option maxRecDepth 20000 in
theorem gX7_sign_X7_in : GoodIn wsX7_sign (va_wsS RX7 27 yX7_in wsX7_in) := goodIn_app (goodIn_of _ (by decide +kernel)) ggX7_sign_X7_in
set_option maxRecDepth 20000 in
theorem ggX7_sign_X7_signOf : GoodIn wsX7_sign wsX7_signOf := goodIn_r _ [17, 10, 11, 12, 4, 13, 6, 96, 97, 98, 99, 100, 101, 102] (by decide +kernel) (by decide +kernel)
set_option maxRecDepth 20000 in
theorem gX7_sign_X7_signOf : GoodIn wsX7_sign (wsV RX7 49 RX7 yX7_signOf wsX7_signOf) := goodIn_app (goodIn_of _ (by decide +kernel)) ggX7_sign_X7_signOf
set_option maxRecDepth 20000 in
theorem ggX7_sign_X7_space : GoodIn wsX7_sign wsX7_space := goodIn_r _ [21, 22, 23, 4, 24, 25, 26, 27, 7, 8, 9, 28, 29, 30, 31, 6, 32, 33, 34, 35, 96, 97, 98, 99, 100, 101, 102] (by decide +kernel) (by decide +kernel)
set_option maxRecDepth 20000 in
theorem gX7_sign_X7_space : GoodIn wsX7_sign (wsV RX7 55 RX7 yX7_space wsX7_space) := goodIn_app (goodIn_of _ (by decide +kernel)) ggX7_sign_X7_space
set_option maxRecDepth 20000 in
theorem ggX7_sign_X7_open : GoodIn wsX7_sign wsX7_open := goodIn_r _ [24, 25, 26, 4, 27, 7, 8, 9] (by decide +kernel) (by decide +kernel)
set_option maxRecDepth 20000 in
theorem gX7_sign_X7_open : GoodIn wsX7_sign (va_wsS RX7 39 yX7_open wsX7_open) := goodIn_app (goodIn_of _ (by decide +kernel)) ggX7_sign_X7_open
set_option maxRecDepth 20000 in
theorem ggX7_sign_X7_size : GoodIn wsX7_sign wsX7_size := goodIn_r _ [39, 6, 40, 41, 42, 4, 43, 10, 11, 12, 13, 44, 45, 46, 47, 48, 49, 50, 51, 52, 53, 54, 55, 56, 57, 58, 59, 14, 15, 16, 17, 60, 61, 62, 25, 26, 27, 7, 8, 9, 18, 19, 20, 21, 22, 23, 24, 28, 29, 30, 31, 32, 33, 34, 35, 63, 64, 65, 66, 67, 68, 69, 70, 71, 72, 73, 96, 97, 98, 99, 100, 101, 102] (by decide +kernel) (by decide +kernel)
set_option maxRecDepth 20000 in
theorem gX7_sign_X7_size : GoodIn wsX7_sign (wsV RX7 134 RX7 yX7_size wsX7_size) := goodIn_app (goodIn_of _ (by decide +kernel)) ggX7_sign_X7_size
set_option maxRecDepth 20000 in
theorem ggX7_sign_X7_unitsTo : GoodIn wsX7_sign wsX7_unitsTo := goodIn_r _ [59, 14, 15, 16, 4, 17, 10, 11, 12, 13, 6, 60, 61, 62, 25, 26, 27, 7, 8, 9, 18, 19, 20, 21, 22, 23, 24, 28, 29, 30, 31, 32, 33, 34, 35, 96, 97, 98, 99, 100, 101, 102] (by decide +kernel) (by decide +kernel)
set_option maxRecDepth 20000 in
theorem gX7_sign_X7_unitsTo : GoodIn wsX7_sign (wsV RX7 58 RX7 yX7_unitsTo wsX7_unitsTo) := goodIn_app (goodIn_of _ (by decide +kernel)) ggX7_sign_X7_unitsTo
set_option maxRecDepth 20000 in
theorem ggX7_sign_X7_wide : GoodIn wsX7_sign wsX7_wide := goodIn_r _ [62, 25, 26, 4, 27, 7, 8, 9] (by decide +kernel) (by decide +kernel)
set_option maxRecDepth 20000 in
theorem gX7_sign_X7_wide : GoodIn wsX7_sign (va_wsS RX7 52 yX7_wide wsX7_wide) := goodIn_app (goodIn_of _ (by decide +kernel)) ggX7_sign_X7_wide
set_option maxRecDepth 20000 in
theorem ggX7_sign_X7_begin : GoodIn wsX7_sign wsX7_begin := goodIn_r _ [77, 78, 79, 80, 4, 81, 10, 11, 12, 13, 6, 14, 15, 16, 17, 82, 83, 84, 25, 26, 27, 7, 8, 9, 56, 57, 58, 59, 60, 61, 62, 18, 19, 20, 21, 22, 23, 24, 28, 29, 30, 31, 32, 33, 34, 35, 85, 86, 87, 88, 89, 90, 91, 92, 71, 72, 73, 93, 94, 95, 52, 53, 54, 55, 96, 97, 98, 99, 100, 101, 102] (by decide +kernel) (by decide +kernel)
set_option maxRecDepth 20000 in
theorem gX7_sign_X7_begin : GoodIn wsX7_sign (wsV RX7 144 RX7 yX7_begin wsX7_begin) := goodIn_app (goodIn_of _ (by decide +kernel)) ggX7_sign_X7_begin
theorem dX7_sign_0 : decode cX7_sign 0 = .ok (.aload_n 0, 1) := by decide +kernel
theorem dX7_sign_1 : decode cX7_sign 1 = .ok (.iload_n 1, 1) := by decide +kernel
theorem dX7_sign_2 : decode cX7_sign 2 = .ok (.invokevirtual 131, 3) := by decide +kernel
theorem dX7_sign_5 : decode cX7_sign 5 = .ok (.ifCond .ne 19, 3) := by decide +kernel
theorem dX7_sign_8 : decode cX7_sign 8 = .ok (.iload_n 2, 1) := by decide +kernel
theorem dX7_sign_9 : decode cX7_sign 9 = .ok (.iconst 0, 1) := by decide +kernel
theorem dX7_sign_10 : decode cX7_sign 10 = .ok (.aload_n 0, 1) := by decide +kernel
theorem dX7_sign_11 : decode cX7_sign 11 = .ok (.iload_n 1, 1) := by decide +kernel
theorem dX7_sign_12 : decode cX7_sign 12 = .ok (.iconst 0, 1) := by decide +kernel
theorem dX7_sign_13 : decode cX7_sign 13 = .ok (.invokevirtual 46, 3) := by decide +kernel
theorem dX7_sign_16 : decode cX7_sign 16 = .ok (.iconst 1, 1) := by decide +kernel
theorem dX7_sign_17 : decode cX7_sign 17 = .ok (.isub, 1) := by decide +kernel
theorem dX7_sign_18 : decode cX7_sign 18 = .ok (.invokestatic 27, 3) := by decide +kernel
theorem dX7_sign_21 : decode cX7_sign 21 = .ok (.ifCond .ne 7, 3) := by decide +kernel
theorem dX7_sign_24 : decode cX7_sign 24 = .ok (.sipush (-1001), 3) := by decide +kernel
theorem dX7_sign_27 : decode cX7_sign 27 = .ok (.ireturn, 1) := by decide +kernel
theorem dX7_sign_28 : decode cX7_sign 28 = .ok (.aload_n 0, 1) := by decide +kernel
theorem dX7_sign_29 : decode cX7_sign 29 = .ok (.iload_n 1, 1) := by decide +kernel
theorem dX7_sign_30 : decode cX7_sign 30 = .ok (.iload_n 2, 1) := by decide +kernel
theorem dX7_sign_31 : decode cX7_sign 31 = .ok (.invokevirtual 49, 3) := by decide +kernel
theorem dX7_sign_34 : decode cX7_sign 34 = .ok (.istore 4, 2) := by decide +kernel
theorem dX7_sign_36 : decode cX7_sign 36 = .ok (.iload_n 3, 1) := by decide +kernel
theorem dX7_sign_37 : decode cX7_sign 37 = .ok (.iconst 3, 1) := by decide +kernel
theorem dX7_sign_38 : decode cX7_sign 38 = .ok (.iconst 4, 1) := by decide +kernel
theorem dX7_sign_39 : decode cX7_sign 39 = .ok (.invokestatic 27, 3) := by decide +kernel
theorem dX7_sign_42 : decode cX7_sign 42 = .ok (.ifCond .eq 59, 3) := by decide +kernel
theorem dX7_sign_45 : decode cX7_sign 45 = .ok (.iload_n 2, 1) := by decide +kernel
theorem dX7_sign_46 : decode cX7_sign 46 = .ok (.aload_n 0, 1) := by decide +kernel
theorem dX7_sign_47 : decode cX7_sign 47 = .ok (.iload_n 1, 1) := by decide +kernel
theorem dX7_sign_48 : decode cX7_sign 48 = .ok (.iconst 0, 1) := by decide +kernel
theorem dX7_sign_49 : decode cX7_sign 49 = .ok (.invokevirtual 46, 3) := by decide +kernel
theorem dX7_sign_52 : decode cX7_sign 52 = .ok (.iconst 1, 1) := by decide +kernel
theorem dX7_sign_53 : decode cX7_sign 53 = .ok (.isub, 1) := by decide +kernel
theorem dX7_sign_54 : decode cX7_sign 54 = .ok (.if_icmp .ne 7, 3) := by decide +kernel
theorem dX7_sign_57 : decode cX7_sign 57 = .ok (.sipush (-1005), 3) := by decide +kernel
theorem dX7_sign_60 : decode cX7_sign 60 = .ok (.ireturn, 1) := by decide +kernel
theorem dX7_sign_61 : decode cX7_sign 61 = .ok (.aload_n 0, 1) := by decide +kernel
theorem dX7_sign_62 : decode cX7_sign 62 = .ok (.iload_n 1, 1) := by decide +kernel
theorem dX7_sign_63 : decode cX7_sign 63 = .ok (.iload_n 2, 1) := by decide +kernel
theorem dX7_sign_64 : decode cX7_sign 64 = .ok (.iconst 1, 1) := by decide +kernel
theorem dX7_sign_65 : decode cX7_sign 65 = .ok (.iadd, 1) := by decide +kernel
theorem dX7_sign_66 : decode cX7_sign 66 = .ok (.invokevirtual 49, 3) := by decide +kernel
theorem dX7_sign_69 : decode cX7_sign 69 = .ok (.istore 5, 2) := by decide +kernel
theorem dX7_sign_71 : decode cX7_sign 71 = .ok (.aload_n 0, 1) := by decide +kernel
theorem dX7_sign_72 : decode cX7_sign 72 = .ok (.iload 4, 2) := by decide +kernel
theorem dX7_sign_74 : decode cX7_sign 74 = .ok (.iload 5, 2) := by decide +kernel
theorem dX7_sign_76 : decode cX7_sign 76 = .ok (.invokevirtual 55, 3) := by decide +kernel
theorem dX7_sign_79 : decode cX7_sign 79 = .ok (.iload_n 3, 1) := by decide +kernel
theorem dX7_sign_80 : decode cX7_sign 80 = .ok (.iconst 3, 1) := by decide +kernel
theorem dX7_sign_81 : decode cX7_sign 81 = .ok (.if_icmp .ne 7, 3) := by decide +kernel
theorem dX7_sign_84 : decode cX7_sign 84 = .ok (.iconst 0, 1) := by decide +kernel
theorem dX7_sign_85 : decode cX7_sign 85 = .ok (.goto 14, 3) := by decide +kernel
theorem dX7_sign_88 : decode cX7_sign 88 = .ok (.iload 4, 2) := by decide +kernel
theorem dX7_sign_90 : decode cX7_sign 90 = .ok (.invokestatic 39, 3) := by decide +kernel
theorem dX7_sign_93 : decode cX7_sign 93 = .ok (.iload 5, 2) := by decide +kernel
theorem dX7_sign_95 : decode cX7_sign 95 = .ok (.invokestatic 39, 3) := by decide +kernel
theorem dX7_sign_98 : decode cX7_sign 98 = .ok (.iadd, 1) := by decide +kernel
theorem dX7_sign_99 : decode cX7_sign 99 = .ok (.iadd, 1) := by decide +kernel
theorem dX7_sign_100 : decode cX7_sign 100 = .ok (.ireturn, 1) := by decide +kernel
theorem dX7_sign_101 : decode cX7_sign 101 = .ok (.aload_n 0, 1) := by decide +kernel
theorem dX7_sign_102 : decode cX7_sign 102 = .ok (.invokevirtual 134, 3) := by decide +kernel
theorem dX7_sign_105 : decode cX7_sign 105 = .ok (.istore 5, 2) := by decide +kernel
theorem dX7_sign_107 : decode cX7_sign 107 = .ok (.iload_n 3, 1) := by decide +kernel
theorem dX7_sign_108 : decode cX7_sign 108 = .ok (.tableswitch 85 0 5 #[40, 43, 50, 85, 85, 56], 40) := by decide +kernel
theorem dX7_sign_148 : decode cX7_sign 148 = .ok (.iload 4, 2) := by decide +kernel
theorem dX7_sign_150 : decode cX7_sign 150 = .ok (.ireturn, 1) := by decide +kernel
theorem dX7_sign_151 : decode cX7_sign 151 = .ok (.aload_n 0, 1) := by decide +kernel
theorem dX7_sign_152 : decode cX7_sign 152 = .ok (.iload_n 1, 1) := by decide +kernel
theorem dX7_sign_153 : decode cX7_sign 153 = .ok (.iload_n 2, 1) := by decide +kernel
theorem dX7_sign_154 : decode cX7_sign 154 = .ok (.invokevirtual 58, 3) := by decide +kernel
theorem dX7_sign_157 : decode cX7_sign 157 = .ok (.ireturn, 1) := by decide +kernel
theorem dX7_sign_158 : decode cX7_sign 158 = .ok (.iload 4, 2) := by decide +kernel
theorem dX7_sign_160 : decode cX7_sign 160 = .ok (.invokestatic 52, 3) := by decide +kernel
theorem dX7_sign_163 : decode cX7_sign 163 = .ok (.ireturn, 1) := by decide +kernel
theorem dX7_sign_164 : decode cX7_sign 164 = .ok (.iload 5, 2) := by decide +kernel
theorem dX7_sign_166 : decode cX7_sign 166 = .ok (.ifCond .ne 9, 3) := by decide +kernel
theorem dX7_sign_169 : decode cX7_sign 169 = .ok (.sipush (-1005), 3) := by decide +kernel
theorem dX7_sign_172 : decode cX7_sign 172 = .ok (.goto 20, 3) := by decide +kernel
theorem dX7_sign_175 : decode cX7_sign 175 = .ok (.aload_n 0, 1) := by decide +kernel
theorem dX7_sign_176 : decode cX7_sign 176 = .ok (.iload_n 1, 1) := by decide +kernel
theorem dX7_sign_177 : decode cX7_sign 177 = .ok (.iload 5, 2) := by decide +kernel
theorem dX7_sign_179 : decode cX7_sign 179 = .ok (.invokevirtual 144, 3) := by decide +kernel
theorem dX7_sign_182 : decode cX7_sign 182 = .ok (.iload 5, 2) := by decide +kernel
theorem dX7_sign_184 : decode cX7_sign 184 = .ok (.aload_n 0, 1) := by decide +kernel
theorem dX7_sign_185 : decode cX7_sign 185 = .ok (.iload_n 1, 1) := by decide +kernel
theorem dX7_sign_186 : decode cX7_sign 186 = .ok (.iload_n 2, 1) := by decide +kernel
theorem dX7_sign_187 : decode cX7_sign 187 = .ok (.invokevirtual 58, 3) := by decide +kernel
theorem dX7_sign_190 : decode cX7_sign 190 = .ok (.imul, 1) := by decide +kernel
theorem dX7_sign_191 : decode cX7_sign 191 = .ok (.iadd, 1) := by decide +kernel
theorem dX7_sign_192 : decode cX7_sign 192 = .ok (.ireturn, 1) := by decide +kernel
theorem dX7_sign_193 : decode cX7_sign 193 = .ok (.sipush (-1002), 3) := by decide +kernel
theorem dX7_sign_196 : decode cX7_sign 196 = .ok (.ireturn, 1) := by decide +kernel
set_option maxRecDepth 20000 in
theorem ggX7_signAt_X7_size : GoodIn wsX7_signAt wsX7_size := goodIn_r _ [6, 1, 7, 8, 9, 5, 10, 11, 12, 13, 14, 15, 16, 17, 18, 19, 20, 21, 22, 23, 24, 25, 26, 27, 28, 29, 30, 31, 32, 33, 34, 35, 36, 37, 38, 39, 40, 41, 42, 43, 44, 45, 46, 47, 48, 49, 50, 51, 52, 53, 54, 55, 56, 57, 58, 59, 60, 61, 62, 63, 64, 65, 66, 67, 68, 69, 96, 97, 98, 99, 100, 101, 102] (by decide +kernel) (by decide +kernel)
set_option maxRecDepth 20000 in
theorem gX7_signAt_X7_size : GoodIn wsX7_signAt (wsV RX7 134 RX7 yX7_size wsX7_size) := goodIn_app (goodIn_of _ (by decide +kernel)) ggX7_signAt_X7_size
set_option maxRecDepth 20000 in
theorem ggX7_signAt_X7_rowOf : GoodIn wsX7_signAt wsX7_rowOf := goodIn_r _ [73, 1, 96, 97, 98, 99, 100, 101, 102] (by decide +kernel) (by decide +kernel)
set_option maxRecDepth 20000 in
theorem gX7_signAt_X7_rowOf : GoodIn wsX7_signAt (wsV RX7 91 RX7 yX7_rowOf wsX7_rowOf) := goodIn_app (goodIn_of _ (by decide +kernel)) ggX7_signAt_X7_rowOf
set_option maxRecDepth 20000 in
theorem ggX7_signAt_X7_begin : GoodIn wsX7_signAt wsX7_begin := goodIn_r _ [77, 78, 79, 80, 5, 81, 11, 12, 13, 14, 1, 31, 32, 33, 34, 82, 83, 84, 38, 39, 40, 41, 42, 43, 27, 28, 29, 30, 35, 36, 37, 44, 45, 46, 47, 48, 49, 50, 51, 52, 53, 54, 55, 56, 57, 58, 85, 86, 87, 88, 89, 90, 91, 92, 67, 68, 69, 93, 94, 95, 23, 24, 25, 26, 96, 97, 98, 99, 100, 101, 102] (by decide +kernel) (by decide +kernel)
set_option maxRecDepth 20000 in
theorem gX7_signAt_X7_begin : GoodIn wsX7_signAt (wsV RX7 144 RX7 yX7_begin wsX7_begin) := goodIn_app (goodIn_of _ (by decide +kernel)) ggX7_signAt_X7_begin
set_option maxRecDepth 20000 in
theorem ggX7_signAt_X7_of : GoodIn wsX7_signAt wsX7_of := goodIn_r _ [14, 1, 96, 97, 98, 99, 100, 101, 102] (by decide +kernel) (by decide +kernel)
set_option maxRecDepth 20000 in
theorem gX7_signAt_X7_of : GoodIn wsX7_signAt (wsV RX7 46 RX7 yX7_of wsX7_of) := goodIn_app (goodIn_of _ (by decide +kernel)) ggX7_signAt_X7_of
set_option maxRecDepth 20000 in
theorem ggX7_signAt_X7_in : GoodIn wsX7_signAt wsX7_in := goodIn_r _ [43] (by decide +kernel) (by decide +kernel)
set_option maxRecDepth 20000 in
theorem gX7_signAt_X7_in : GoodIn wsX7_signAt (va_wsS RX7 27 yX7_in wsX7_in) := goodIn_app (goodIn_of _ (by decide +kernel)) ggX7_signAt_X7_in
set_option maxRecDepth 20000 in
theorem ggX7_signAt_X7_unitsTo : GoodIn wsX7_signAt wsX7_unitsTo := goodIn_r _ [30, 31, 32, 33, 5, 34, 11, 12, 13, 14, 1, 35, 36, 37, 38, 39, 40, 41, 42, 43, 44, 45, 46, 47, 48, 49, 50, 51, 52, 53, 54, 55, 56, 57, 58, 96, 97, 98, 99, 100, 101, 102] (by decide +kernel) (by decide +kernel)
set_option maxRecDepth 20000 in
theorem gX7_signAt_X7_unitsTo : GoodIn wsX7_signAt (wsV RX7 58 RX7 yX7_unitsTo wsX7_unitsTo) := goodIn_app (goodIn_of _ (by decide +kernel)) ggX7_signAt_X7_unitsTo
set_option maxRecDepth 20000 in
theorem ggX7_signAt_X7_signOf : GoodIn wsX7_signAt wsX7_signOf := goodIn_r _ [34, 11, 12, 13, 5, 14, 1, 96, 97, 98, 99, 100, 101, 102] (by decide +kernel) (by decide +kernel)
set_option maxRecDepth 20000 in
theorem gX7_signAt_X7_signOf : GoodIn wsX7_signAt (wsV RX7 49 RX7 yX7_signOf wsX7_signOf) := goodIn_app (goodIn_of _ (by decide +kernel)) ggX7_signAt_X7_signOf
set_option maxRecDepth 20000 in
theorem ggX7_signAt_X7_wide : GoodIn wsX7_signAt wsX7_wide := goodIn_r _ [37, 38, 39, 5, 40, 41, 42, 43] (by decide +kernel) (by decide +kernel)
set_option maxRecDepth 20000 in
theorem gX7_signAt_X7_wide : GoodIn wsX7_signAt (va_wsS RX7 52 yX7_wide wsX7_wide) := goodIn_app (goodIn_of _ (by decide +kernel)) ggX7_signAt_X7_wide
theorem dX7_signAt_0 : decode cX7_signAt 0 = .ok (.iload_n 1, 1) := by decide +kernel
theorem dX7_signAt_1 : decode cX7_signAt 1 = .ok (.ifCond .lt 7, 3) := by decide +kernel
theorem dX7_signAt_4 : decode cX7_signAt 4 = .ok (.iload_n 2, 1) := by decide +kernel
theorem dX7_signAt_5 : decode cX7_signAt 5 = .ok (.ifCond .ge 7, 3) := by decide +kernel
theorem dX7_signAt_8 : decode cX7_signAt 8 = .ok (.sipush (-1002), 3) := by decide +kernel
theorem dX7_signAt_11 : decode cX7_signAt 11 = .ok (.ireturn, 1) := by decide +kernel
theorem dX7_signAt_12 : decode cX7_signAt 12 = .ok (.aload_n 0, 1) := by decide +kernel
theorem dX7_signAt_13 : decode cX7_signAt 13 = .ok (.invokevirtual 134, 3) := by decide +kernel
theorem dX7_signAt_16 : decode cX7_signAt 16 = .ok (.istore_n 3, 1) := by decide +kernel
theorem dX7_signAt_17 : decode cX7_signAt 17 = .ok (.iconst 0, 1) := by decide +kernel
theorem dX7_signAt_18 : decode cX7_signAt 18 = .ok (.istore 4, 2) := by decide +kernel
theorem dX7_signAt_20 : decode cX7_signAt 20 = .ok (.iload 4, 2) := by decide +kernel
theorem dX7_signAt_22 : decode cX7_signAt 22 = .ok (.aload_n 0, 1) := by decide +kernel
theorem dX7_signAt_23 : decode cX7_signAt 23 = .ok (.getfield 7, 3) := by decide +kernel
theorem dX7_signAt_26 : decode cX7_signAt 26 = .ok (.iconst 4, 1) := by decide +kernel
theorem dX7_signAt_27 : decode cX7_signAt 27 = .ok (.iaload, 1) := by decide +kernel
theorem dX7_signAt_28 : decode cX7_signAt 28 = .ok (.if_icmp .ge 132, 3) := by decide +kernel
theorem dX7_signAt_31 : decode cX7_signAt 31 = .ok (.iload_n 3, 1) := by decide +kernel
theorem dX7_signAt_32 : decode cX7_signAt 32 = .ok (.ifCond .le 128, 3) := by decide +kernel
theorem dX7_signAt_35 : decode cX7_signAt 35 = .ok (.aload_n 0, 1) := by decide +kernel
theorem dX7_signAt_36 : decode cX7_signAt 36 = .ok (.getfield 7, 3) := by decide +kernel
theorem dX7_signAt_39 : decode cX7_signAt 39 = .ok (.iconst 2, 1) := by decide +kernel
theorem dX7_signAt_40 : decode cX7_signAt 40 = .ok (.iaload, 1) := by decide +kernel
theorem dX7_signAt_41 : decode cX7_signAt 41 = .ok (.bipush 12, 2) := by decide +kernel
theorem dX7_signAt_43 : decode cX7_signAt 43 = .ok (.iload_n 3, 1) := by decide +kernel
theorem dX7_signAt_44 : decode cX7_signAt 44 = .ok (.imul, 1) := by decide +kernel
theorem dX7_signAt_45 : decode cX7_signAt 45 = .ok (.aload_n 0, 1) := by decide +kernel
theorem dX7_signAt_46 : decode cX7_signAt 46 = .ok (.iload 4, 2) := by decide +kernel
theorem dX7_signAt_48 : decode cX7_signAt 48 = .ok (.invokevirtual 91, 3) := by decide +kernel
theorem dX7_signAt_51 : decode cX7_signAt 51 = .ok (.imul, 1) := by decide +kernel
theorem dX7_signAt_52 : decode cX7_signAt 52 = .ok (.iadd, 1) := by decide +kernel
theorem dX7_signAt_53 : decode cX7_signAt 53 = .ok (.istore 5, 2) := by decide +kernel
theorem dX7_signAt_55 : decode cX7_signAt 55 = .ok (.aload_n 0, 1) := by decide +kernel
theorem dX7_signAt_56 : decode cX7_signAt 56 = .ok (.iload 4, 2) := by decide +kernel
theorem dX7_signAt_58 : decode cX7_signAt 58 = .ok (.iload_n 3, 1) := by decide +kernel
theorem dX7_signAt_59 : decode cX7_signAt 59 = .ok (.invokevirtual 144, 3) := by decide +kernel
theorem dX7_signAt_62 : decode cX7_signAt 62 = .ok (.istore 6, 2) := by decide +kernel
theorem dX7_signAt_64 : decode cX7_signAt 64 = .ok (.iconst 0, 1) := by decide +kernel
theorem dX7_signAt_65 : decode cX7_signAt 65 = .ok (.istore 7, 2) := by decide +kernel
theorem dX7_signAt_67 : decode cX7_signAt 67 = .ok (.iload 7, 2) := by decide +kernel
theorem dX7_signAt_69 : decode cX7_signAt 69 = .ok (.aload_n 0, 1) := by decide +kernel
theorem dX7_signAt_70 : decode cX7_signAt 70 = .ok (.iload 4, 2) := by decide +kernel
theorem dX7_signAt_72 : decode cX7_signAt 72 = .ok (.iconst 0, 1) := by decide +kernel
theorem dX7_signAt_73 : decode cX7_signAt 73 = .ok (.invokevirtual 46, 3) := by decide +kernel
theorem dX7_signAt_76 : decode cX7_signAt 76 = .ok (.if_icmp .ge 78, 3) := by decide +kernel
theorem dX7_signAt_79 : decode cX7_signAt 79 = .ok (.iload_n 2, 1) := by decide +kernel
theorem dX7_signAt_80 : decode cX7_signAt 80 = .ok (.iload 5, 2) := by decide +kernel
theorem dX7_signAt_82 : decode cX7_signAt 82 = .ok (.iload 5, 2) := by decide +kernel
theorem dX7_signAt_84 : decode cX7_signAt 84 = .ok (.bipush 12, 2) := by decide +kernel
theorem dX7_signAt_86 : decode cX7_signAt 86 = .ok (.iload_n 3, 1) := by decide +kernel
theorem dX7_signAt_87 : decode cX7_signAt 87 = .ok (.imul, 1) := by decide +kernel
theorem dX7_signAt_88 : decode cX7_signAt 88 = .ok (.iadd, 1) := by decide +kernel
theorem dX7_signAt_89 : decode cX7_signAt 89 = .ok (.iconst 1, 1) := by decide +kernel
theorem dX7_signAt_90 : decode cX7_signAt 90 = .ok (.isub, 1) := by decide +kernel
theorem dX7_signAt_91 : decode cX7_signAt 91 = .ok (.invokestatic 27, 3) := by decide +kernel
theorem dX7_signAt_94 : decode cX7_signAt 94 = .ok (.ifCond .eq 60, 3) := by decide +kernel
theorem dX7_signAt_97 : decode cX7_signAt 97 = .ok (.iload 6, 2) := by decide +kernel
theorem dX7_signAt_99 : decode cX7_signAt 99 = .ok (.iload_n 3, 1) := by decide +kernel
theorem dX7_signAt_100 : decode cX7_signAt 100 = .ok (.aload_n 0, 1) := by decide +kernel
theorem dX7_signAt_101 : decode cX7_signAt 101 = .ok (.iload 4, 2) := by decide +kernel
theorem dX7_signAt_103 : decode cX7_signAt 103 = .ok (.iload 7, 2) := by decide +kernel
theorem dX7_signAt_105 : decode cX7_signAt 105 = .ok (.invokevirtual 58, 3) := by decide +kernel
theorem dX7_signAt_108 : decode cX7_signAt 108 = .ok (.imul, 1) := by decide +kernel
theorem dX7_signAt_109 : decode cX7_signAt 109 = .ok (.iadd, 1) := by decide +kernel
theorem dX7_signAt_110 : decode cX7_signAt 110 = .ok (.istore 8, 2) := by decide +kernel
theorem dX7_signAt_112 : decode cX7_signAt 112 = .ok (.iload_n 1, 1) := by decide +kernel
theorem dX7_signAt_113 : decode cX7_signAt 113 = .ok (.iload 8, 2) := by decide +kernel
theorem dX7_signAt_115 : decode cX7_signAt 115 = .ok (.iload 8, 2) := by decide +kernel
theorem dX7_signAt_117 : decode cX7_signAt 117 = .ok (.iload_n 3, 1) := by decide +kernel
theorem dX7_signAt_118 : decode cX7_signAt 118 = .ok (.aload_n 0, 1) := by decide +kernel
theorem dX7_signAt_119 : decode cX7_signAt 119 = .ok (.iload 4, 2) := by decide +kernel
theorem dX7_signAt_121 : decode cX7_signAt 121 = .ok (.iload 7, 2) := by decide +kernel
theorem dX7_signAt_123 : decode cX7_signAt 123 = .ok (.invokevirtual 49, 3) := by decide +kernel
theorem dX7_signAt_126 : decode cX7_signAt 126 = .ok (.invokestatic 52, 3) := by decide +kernel
theorem dX7_signAt_129 : decode cX7_signAt 129 = .ok (.imul, 1) := by decide +kernel
theorem dX7_signAt_130 : decode cX7_signAt 130 = .ok (.iadd, 1) := by decide +kernel
theorem dX7_signAt_131 : decode cX7_signAt 131 = .ok (.iconst 1, 1) := by decide +kernel
theorem dX7_signAt_132 : decode cX7_signAt 132 = .ok (.isub, 1) := by decide +kernel
theorem dX7_signAt_133 : decode cX7_signAt 133 = .ok (.invokestatic 27, 3) := by decide +kernel
theorem dX7_signAt_136 : decode cX7_signAt 136 = .ok (.ifCond .eq 12, 3) := by decide +kernel
theorem dX7_signAt_139 : decode cX7_signAt 139 = .ok (.bipush 100, 2) := by decide +kernel
theorem dX7_signAt_141 : decode cX7_signAt 141 = .ok (.iload 4, 2) := by decide +kernel
theorem dX7_signAt_143 : decode cX7_signAt 143 = .ok (.imul, 1) := by decide +kernel
theorem dX7_signAt_144 : decode cX7_signAt 144 = .ok (.iload 7, 2) := by decide +kernel
theorem dX7_signAt_146 : decode cX7_signAt 146 = .ok (.iadd, 1) := by decide +kernel
theorem dX7_signAt_147 : decode cX7_signAt 147 = .ok (.ireturn, 1) := by decide +kernel
theorem dX7_signAt_148 : decode cX7_signAt 148 = .ok (.iinc 7 1, 3) := by decide +kernel
theorem dX7_signAt_151 : decode cX7_signAt 151 = .ok (.goto (-84), 3) := by decide +kernel
theorem dX7_signAt_154 : decode cX7_signAt 154 = .ok (.iinc 4 1, 3) := by decide +kernel
theorem dX7_signAt_157 : decode cX7_signAt 157 = .ok (.goto (-137), 3) := by decide +kernel
theorem dX7_signAt_160 : decode cX7_signAt 160 = .ok (.sipush (-1005), 3) := by decide +kernel
theorem dX7_signAt_163 : decode cX7_signAt 163 = .ok (.ireturn, 1) := by decide +kernel
set_option maxRecDepth 20000 in
theorem ggX7_sizeBy_X7_in : GoodIn wsX7_sizeBy wsX7_in := goodIn_r _ [4] (by decide +kernel) (by decide +kernel)
set_option maxRecDepth 20000 in
theorem gX7_sizeBy_X7_in : GoodIn wsX7_sizeBy (va_wsS RX7 27 yX7_in wsX7_in) := goodIn_app (goodIn_of _ (by decide +kernel)) ggX7_sizeBy_X7_in
set_option maxRecDepth 20000 in
theorem ggX7_sizeBy_X7_free : GoodIn wsX7_sizeBy wsX7_free := goodIn_r _ [8, 9, 10, 11, 12, 3, 13, 14, 15, 16, 17, 18, 19, 20, 21, 22, 23, 24, 25, 26, 27, 28, 29, 30, 31, 32, 33, 34, 35, 1, 2, 4, 36, 37, 38, 39, 40, 41, 42, 43, 44, 45, 46, 47, 48, 49, 50, 51, 52, 53, 54, 55, 56, 57, 58, 59, 60, 61, 62, 63, 64, 65, 66, 67, 68] (by decide +kernel) (by decide +kernel)
set_option maxRecDepth 20000 in
theorem gX7_sizeBy_X7_free : GoodIn wsX7_sizeBy (wsV RX7 85 RX7 yX7_free wsX7_free) := goodIn_app (goodIn_of _ (by decide +kernel)) ggX7_sizeBy_X7_free
theorem dX7_sizeBy_0 : decode cX7_sizeBy 0 = .ok (.iload_n 1, 1) := by decide +kernel
theorem dX7_sizeBy_1 : decode cX7_sizeBy 1 = .ok (.sipush 300, 3) := by decide +kernel
theorem dX7_sizeBy_4 : decode cX7_sizeBy 4 = .ok (.sipush 6000, 3) := by decide +kernel
theorem dX7_sizeBy_7 : decode cX7_sizeBy 7 = .ok (.invokestatic 27, 3) := by decide +kernel
theorem dX7_sizeBy_10 : decode cX7_sizeBy 10 = .ok (.ifCond .eq 24, 3) := by decide +kernel
theorem dX7_sizeBy_13 : decode cX7_sizeBy 13 = .ok (.iload_n 2, 1) := by decide +kernel
theorem dX7_sizeBy_14 : decode cX7_sizeBy 14 = .ok (.bipush 100, 2) := by decide +kernel
theorem dX7_sizeBy_16 : decode cX7_sizeBy 16 = .ok (.sipush 3000, 3) := by decide +kernel
theorem dX7_sizeBy_19 : decode cX7_sizeBy 19 = .ok (.invokestatic 27, 3) := by decide +kernel
theorem dX7_sizeBy_22 : decode cX7_sizeBy 22 = .ok (.ifCond .eq 12, 3) := by decide +kernel
theorem dX7_sizeBy_25 : decode cX7_sizeBy 25 = .ok (.aload_n 0, 1) := by decide +kernel
theorem dX7_sizeBy_26 : decode cX7_sizeBy 26 = .ok (.iload_n 1, 1) := by decide +kernel
theorem dX7_sizeBy_27 : decode cX7_sizeBy 27 = .ok (.iload_n 2, 1) := by decide +kernel
theorem dX7_sizeBy_28 : decode cX7_sizeBy 28 = .ok (.invokevirtual 85, 3) := by decide +kernel
theorem dX7_sizeBy_31 : decode cX7_sizeBy 31 = .ok (.goto 6, 3) := by decide +kernel
theorem dX7_sizeBy_34 : decode cX7_sizeBy 34 = .ok (.sipush (-1002), 3) := by decide +kernel
theorem dX7_sizeBy_37 : decode cX7_sizeBy 37 = .ok (.ireturn, 1) := by decide +kernel
set_option maxRecDepth 20000 in
theorem ggX7_sizeWithout_X7_noSeat : GoodIn wsX7_sizeWithout wsX7_noSeat := goodIn_r _ [6, 1, 7, 8, 5, 9, 62, 63, 64, 65, 66, 67, 68] (by decide +kernel) (by decide +kernel)
set_option maxRecDepth 20000 in
theorem gX7_sizeWithout_X7_noSeat : GoodIn wsX7_sizeWithout (wsV RX7 131 RX7 yX7_noSeat wsX7_noSeat) := goodIn_app (goodIn_of _ (by decide +kernel)) ggX7_sizeWithout_X7_noSeat
set_option maxRecDepth 20000 in
theorem ggX7_sizeWithout_X7_mostUnits : GoodIn wsX7_sizeWithout wsX7_mostUnits := goodIn_r _ [13, 1, 14, 15, 16, 5, 17, 18, 19, 20, 21, 22, 23, 24, 25, 26, 27, 28, 29, 30, 31, 32, 33, 34, 35, 7, 8, 9, 36, 37, 38, 39, 40, 41, 42, 43, 44, 45, 46, 47, 48, 49, 50, 62, 63, 64, 65, 66, 67, 68] (by decide +kernel) (by decide +kernel)
set_option maxRecDepth 20000 in
theorem gX7_sizeWithout_X7_mostUnits : GoodIn wsX7_sizeWithout (wsV RX7 71 RX7 yX7_mostUnits wsX7_mostUnits) := goodIn_app (goodIn_of _ (by decide +kernel)) ggX7_sizeWithout_X7_mostUnits
set_option maxRecDepth 20000 in
theorem ggX7_sizeWithout_X7_rowsOf : GoodIn wsX7_sizeWithout wsX7_rowsOf := goodIn_r _ [54, 1, 62, 63, 64, 65, 66, 67, 68] (by decide +kernel) (by decide +kernel)
set_option maxRecDepth 20000 in
theorem gX7_sizeWithout_X7_rowsOf : GoodIn wsX7_sizeWithout (wsV RX7 74 RX7 yX7_rowsOf wsX7_rowsOf) := goodIn_app (goodIn_of _ (by decide +kernel)) ggX7_sizeWithout_X7_rowsOf
set_option maxRecDepth 20000 in
theorem ggX7_sizeWithout_X7_greatest : GoodIn wsX7_sizeWithout wsX7_greatest := goodIn_r _ [58, 1, 59, 60, 5, 61, 62, 63, 64, 65, 66, 67, 68] (by decide +kernel) (by decide +kernel)
set_option maxRecDepth 20000 in
theorem gX7_sizeWithout_X7_greatest : GoodIn wsX7_sizeWithout (wsV RX7 77 RX7 yX7_greatest wsX7_greatest) := goodIn_app (goodIn_of _ (by decide +kernel)) ggX7_sizeWithout_X7_greatest
theorem dX7_sizeWithout_0 : decode cX7_sizeWithout 0 = .ok (.aload_n 0, 1) := by decide +kernel
theorem dX7_sizeWithout_1 : decode cX7_sizeWithout 1 = .ok (.iload_n 1, 1) := by decide +kernel
theorem dX7_sizeWithout_2 : decode cX7_sizeWithout 2 = .ok (.invokevirtual 131, 3) := by decide +kernel
theorem dX7_sizeWithout_5 : decode cX7_sizeWithout 5 = .ok (.ifCond .eq 7, 3) := by decide +kernel
theorem dX7_sizeWithout_8 : decode cX7_sizeWithout 8 = .ok (.sipush (-1001), 3) := by decide +kernel
theorem dX7_sizeWithout_11 : decode cX7_sizeWithout 11 = .ok (.ireturn, 1) := by decide +kernel
theorem dX7_sizeWithout_12 : decode cX7_sizeWithout 12 = .ok (.aload_n 0, 1) := by decide +kernel
theorem dX7_sizeWithout_13 : decode cX7_sizeWithout 13 = .ok (.aload_n 0, 1) := by decide +kernel
theorem dX7_sizeWithout_14 : decode cX7_sizeWithout 14 = .ok (.iload_n 1, 1) := by decide +kernel
theorem dX7_sizeWithout_15 : decode cX7_sizeWithout 15 = .ok (.invokevirtual 71, 3) := by decide +kernel
theorem dX7_sizeWithout_18 : decode cX7_sizeWithout 18 = .ok (.aload_n 0, 1) := by decide +kernel
theorem dX7_sizeWithout_19 : decode cX7_sizeWithout 19 = .ok (.aload_n 0, 1) := by decide +kernel
theorem dX7_sizeWithout_20 : decode cX7_sizeWithout 20 = .ok (.getfield 7, 3) := by decide +kernel
theorem dX7_sizeWithout_23 : decode cX7_sizeWithout 23 = .ok (.iconst 4, 1) := by decide +kernel
theorem dX7_sizeWithout_24 : decode cX7_sizeWithout 24 = .ok (.iaload, 1) := by decide +kernel
theorem dX7_sizeWithout_25 : decode cX7_sizeWithout 25 = .ok (.iconst 1, 1) := by decide +kernel
theorem dX7_sizeWithout_26 : decode cX7_sizeWithout 26 = .ok (.isub, 1) := by decide +kernel
theorem dX7_sizeWithout_27 : decode cX7_sizeWithout 27 = .ok (.invokevirtual 74, 3) := by decide +kernel
theorem dX7_sizeWithout_30 : decode cX7_sizeWithout 30 = .ok (.aload_n 0, 1) := by decide +kernel
theorem dX7_sizeWithout_31 : decode cX7_sizeWithout 31 = .ok (.getfield 7, 3) := by decide +kernel
theorem dX7_sizeWithout_34 : decode cX7_sizeWithout 34 = .ok (.iconst 0, 1) := by decide +kernel
theorem dX7_sizeWithout_35 : decode cX7_sizeWithout 35 = .ok (.iaload, 1) := by decide +kernel
theorem dX7_sizeWithout_36 : decode cX7_sizeWithout 36 = .ok (.aload_n 0, 1) := by decide +kernel
theorem dX7_sizeWithout_37 : decode cX7_sizeWithout 37 = .ok (.getfield 7, 3) := by decide +kernel
theorem dX7_sizeWithout_40 : decode cX7_sizeWithout 40 = .ok (.iconst 1, 1) := by decide +kernel
theorem dX7_sizeWithout_41 : decode cX7_sizeWithout 41 = .ok (.iaload, 1) := by decide +kernel
theorem dX7_sizeWithout_42 : decode cX7_sizeWithout 42 = .ok (.invokevirtual 77, 3) := by decide +kernel
theorem dX7_sizeWithout_45 : decode cX7_sizeWithout 45 = .ok (.ireturn, 1) := by decide +kernel
set_option maxRecDepth 20000 in
theorem ggX7_leastWidth_X7_in : GoodIn wsX7_leastWidth wsX7_in := goodIn_r _ [5] (by decide +kernel) (by decide +kernel)
set_option maxRecDepth 20000 in
theorem gX7_leastWidth_X7_in : GoodIn wsX7_leastWidth (va_wsS RX7 27 yX7_in wsX7_in) := goodIn_app (goodIn_of _ (by decide +kernel)) ggX7_leastWidth_X7_in
set_option maxRecDepth 20000 in
theorem ggX7_leastWidth_X7_mostUnits : GoodIn wsX7_leastWidth wsX7_mostUnits := goodIn_r _ [9, 1, 10, 11, 12, 4, 13, 14, 15, 16, 17, 18, 19, 20, 21, 22, 23, 24, 25, 26, 27, 28, 29, 30, 31, 2, 3, 5, 32, 33, 34, 35, 36, 37, 38, 39, 40, 41, 42, 43, 44, 45, 46, 47, 48, 49, 50, 51, 52, 53] (by decide +kernel) (by decide +kernel)
set_option maxRecDepth 20000 in
theorem gX7_leastWidth_X7_mostUnits : GoodIn wsX7_leastWidth (wsV RX7 71 RX7 yX7_mostUnits wsX7_mostUnits) := goodIn_app (goodIn_of _ (by decide +kernel)) ggX7_leastWidth_X7_mostUnits
theorem dX7_leastWidth_0 : decode cX7_leastWidth 0 = .ok (.iload_n 1, 1) := by decide +kernel
theorem dX7_leastWidth_1 : decode cX7_leastWidth 1 = .ok (.iconst 1, 1) := by decide +kernel
theorem dX7_leastWidth_2 : decode cX7_leastWidth 2 = .ok (.bipush 40, 2) := by decide +kernel
theorem dX7_leastWidth_4 : decode cX7_leastWidth 4 = .ok (.invokestatic 27, 3) := by decide +kernel
theorem dX7_leastWidth_7 : decode cX7_leastWidth 7 = .ok (.ifCond .ne 7, 3) := by decide +kernel
theorem dX7_leastWidth_10 : decode cX7_leastWidth 10 = .ok (.sipush (-1002), 3) := by decide +kernel
theorem dX7_leastWidth_13 : decode cX7_leastWidth 13 = .ok (.ireturn, 1) := by decide +kernel
theorem dX7_leastWidth_14 : decode cX7_leastWidth 14 = .ok (.aload_n 0, 1) := by decide +kernel
theorem dX7_leastWidth_15 : decode cX7_leastWidth 15 = .ok (.getfield 7, 3) := by decide +kernel
theorem dX7_leastWidth_18 : decode cX7_leastWidth 18 = .ok (.iconst 4, 1) := by decide +kernel
theorem dX7_leastWidth_19 : decode cX7_leastWidth 19 = .ok (.iaload, 1) := by decide +kernel
theorem dX7_leastWidth_20 : decode cX7_leastWidth 20 = .ok (.ifCond .ne 7, 3) := by decide +kernel
theorem dX7_leastWidth_23 : decode cX7_leastWidth 23 = .ok (.sipush (-1005), 3) := by decide +kernel
theorem dX7_leastWidth_26 : decode cX7_leastWidth 26 = .ok (.ireturn, 1) := by decide +kernel
theorem dX7_leastWidth_27 : decode cX7_leastWidth 27 = .ok (.aload_n 0, 1) := by decide +kernel
theorem dX7_leastWidth_28 : decode cX7_leastWidth 28 = .ok (.sipush (-1005), 3) := by decide +kernel
theorem dX7_leastWidth_31 : decode cX7_leastWidth 31 = .ok (.invokevirtual 71, 3) := by decide +kernel
theorem dX7_leastWidth_34 : decode cX7_leastWidth 34 = .ok (.iload_n 1, 1) := by decide +kernel
theorem dX7_leastWidth_35 : decode cX7_leastWidth 35 = .ok (.imul, 1) := by decide +kernel
theorem dX7_leastWidth_36 : decode cX7_leastWidth 36 = .ok (.aload_n 0, 1) := by decide +kernel
theorem dX7_leastWidth_37 : decode cX7_leastWidth 37 = .ok (.getfield 7, 3) := by decide +kernel
theorem dX7_leastWidth_40 : decode cX7_leastWidth 40 = .ok (.iconst 3, 1) := by decide +kernel
theorem dX7_leastWidth_41 : decode cX7_leastWidth 41 = .ok (.iaload, 1) := by decide +kernel
theorem dX7_leastWidth_42 : decode cX7_leastWidth 42 = .ok (.imul, 1) := by decide +kernel
theorem dX7_leastWidth_43 : decode cX7_leastWidth 43 = .ok (.iconst 2, 1) := by decide +kernel
theorem dX7_leastWidth_44 : decode cX7_leastWidth 44 = .ok (.aload_n 0, 1) := by decide +kernel
theorem dX7_leastWidth_45 : decode cX7_leastWidth 45 = .ok (.getfield 7, 3) := by decide +kernel
theorem dX7_leastWidth_48 : decode cX7_leastWidth 48 = .ok (.iconst 2, 1) := by decide +kernel
theorem dX7_leastWidth_49 : decode cX7_leastWidth 49 = .ok (.iaload, 1) := by decide +kernel
theorem dX7_leastWidth_50 : decode cX7_leastWidth 50 = .ok (.imul, 1) := by decide +kernel
theorem dX7_leastWidth_51 : decode cX7_leastWidth 51 = .ok (.iadd, 1) := by decide +kernel
theorem dX7_leastWidth_52 : decode cX7_leastWidth 52 = .ok (.istore_n 2, 1) := by decide +kernel
theorem dX7_leastWidth_53 : decode cX7_leastWidth 53 = .ok (.iload_n 2, 1) := by decide +kernel
theorem dX7_leastWidth_54 : decode cX7_leastWidth 54 = .ok (.sipush 300, 3) := by decide +kernel
theorem dX7_leastWidth_57 : decode cX7_leastWidth 57 = .ok (.if_icmp .ge 9, 3) := by decide +kernel
theorem dX7_leastWidth_60 : decode cX7_leastWidth 60 = .ok (.sipush 300, 3) := by decide +kernel
theorem dX7_leastWidth_63 : decode cX7_leastWidth 63 = .ok (.goto 4, 3) := by decide +kernel
theorem dX7_leastWidth_66 : decode cX7_leastWidth 66 = .ok (.iload_n 2, 1) := by decide +kernel
theorem dX7_leastWidth_67 : decode cX7_leastWidth 67 = .ok (.ireturn, 1) := by decide +kernel
set_option maxRecDepth 20000 in
theorem ggX7_longest_X7_units : GoodIn wsX7_longest wsX7_units := goodIn_r _ [6, 7, 8, 9, 5, 10, 1, 11, 12, 13, 14, 15, 16, 17, 18, 19, 20, 21, 22, 23, 24, 25, 26, 27, 28, 29, 30, 31, 32, 33, 34, 35, 36, 37, 38, 39, 40, 41, 42, 43, 44, 45, 46, 47, 48, 49] (by decide +kernel) (by decide +kernel)
set_option maxRecDepth 20000 in
theorem gX7_longest_X7_units : GoodIn wsX7_longest (wsV RX7 68 RX7 yX7_units wsX7_units) := goodIn_app (goodIn_of _ (by decide +kernel)) ggX7_longest_X7_units
theorem dX7_longest_0 : decode cX7_longest 0 = .ok (.sipush (-1005), 3) := by decide +kernel
theorem dX7_longest_3 : decode cX7_longest 3 = .ok (.istore_n 1, 1) := by decide +kernel
theorem dX7_longest_4 : decode cX7_longest 4 = .ok (.iconst 0, 1) := by decide +kernel
theorem dX7_longest_5 : decode cX7_longest 5 = .ok (.istore_n 2, 1) := by decide +kernel
theorem dX7_longest_6 : decode cX7_longest 6 = .ok (.iload_n 2, 1) := by decide +kernel
theorem dX7_longest_7 : decode cX7_longest 7 = .ok (.aload_n 0, 1) := by decide +kernel
theorem dX7_longest_8 : decode cX7_longest 8 = .ok (.getfield 7, 3) := by decide +kernel
theorem dX7_longest_11 : decode cX7_longest 11 = .ok (.iconst 4, 1) := by decide +kernel
theorem dX7_longest_12 : decode cX7_longest 12 = .ok (.iaload, 1) := by decide +kernel
theorem dX7_longest_13 : decode cX7_longest 13 = .ok (.if_icmp .ge 35, 3) := by decide +kernel
theorem dX7_longest_16 : decode cX7_longest 16 = .ok (.iload_n 1, 1) := by decide +kernel
theorem dX7_longest_17 : decode cX7_longest 17 = .ok (.sipush (-1005), 3) := by decide +kernel
theorem dX7_longest_20 : decode cX7_longest 20 = .ok (.if_icmp .eq 16, 3) := by decide +kernel
theorem dX7_longest_23 : decode cX7_longest 23 = .ok (.aload_n 0, 1) := by decide +kernel
theorem dX7_longest_24 : decode cX7_longest 24 = .ok (.iload_n 2, 1) := by decide +kernel
theorem dX7_longest_25 : decode cX7_longest 25 = .ok (.invokevirtual 68, 3) := by decide +kernel
theorem dX7_longest_28 : decode cX7_longest 28 = .ok (.aload_n 0, 1) := by decide +kernel
theorem dX7_longest_29 : decode cX7_longest 29 = .ok (.iload_n 1, 1) := by decide +kernel
theorem dX7_longest_30 : decode cX7_longest 30 = .ok (.invokevirtual 68, 3) := by decide +kernel
theorem dX7_longest_33 : decode cX7_longest 33 = .ok (.if_icmp .le 7, 3) := by decide +kernel
theorem dX7_longest_36 : decode cX7_longest 36 = .ok (.iload_n 2, 1) := by decide +kernel
theorem dX7_longest_37 : decode cX7_longest 37 = .ok (.goto 4, 3) := by decide +kernel
theorem dX7_longest_40 : decode cX7_longest 40 = .ok (.iload_n 1, 1) := by decide +kernel
theorem dX7_longest_41 : decode cX7_longest 41 = .ok (.istore_n 1, 1) := by decide +kernel
theorem dX7_longest_42 : decode cX7_longest 42 = .ok (.iinc 2 1, 3) := by decide +kernel
theorem dX7_longest_45 : decode cX7_longest 45 = .ok (.goto (-39), 3) := by decide +kernel
theorem dX7_longest_48 : decode cX7_longest 48 = .ok (.iload_n 1, 1) := by decide +kernel
theorem dX7_longest_49 : decode cX7_longest 49 = .ok (.ireturn, 1) := by decide +kernel
set_option maxRecDepth 20000 in
theorem ggX7_adjustment_X7_areSigns : GoodIn wsX7_adjustment wsX7_areSigns := goodIn_r _ [4, 5, 6, 3, 7, 8, 9, 10, 11, 12, 13] (by decide +kernel) (by decide +kernel)
set_option maxRecDepth 20000 in
theorem gX7_adjustment_X7_areSigns : GoodIn wsX7_adjustment (va_wsS RX7 115 yX7_areSigns wsX7_areSigns) := goodIn_app (goodIn_of _ (by decide +kernel)) ggX7_adjustment_X7_areSigns
set_option maxRecDepth 20000 in
theorem ggX7_adjustment_X7_adjusted : GoodIn wsX7_adjustment wsX7_adjusted := goodIn_r _ [17, 18, 19, 20, 21, 3, 22, 23, 24, 25, 26, 27, 28, 29] (by decide +kernel) (by decide +kernel)
set_option maxRecDepth 20000 in
theorem gX7_adjustment_X7_adjusted : GoodIn wsX7_adjustment (wsV RX7 43 RX7 yX7_adjusted wsX7_adjusted) := goodIn_app (goodIn_of _ (by decide +kernel)) ggX7_adjustment_X7_adjusted
theorem dX7_adjustment_0 : decode cX7_adjustment 0 = .ok (.iload_n 1, 1) := by decide +kernel
theorem dX7_adjustment_1 : decode cX7_adjustment 1 = .ok (.iload_n 2, 1) := by decide +kernel
theorem dX7_adjustment_2 : decode cX7_adjustment 2 = .ok (.invokestatic 115, 3) := by decide +kernel
theorem dX7_adjustment_5 : decode cX7_adjustment 5 = .ok (.ifCond .eq 12, 3) := by decide +kernel
theorem dX7_adjustment_8 : decode cX7_adjustment 8 = .ok (.aload_n 0, 1) := by decide +kernel
theorem dX7_adjustment_9 : decode cX7_adjustment 9 = .ok (.iload_n 1, 1) := by decide +kernel
theorem dX7_adjustment_10 : decode cX7_adjustment 10 = .ok (.iload_n 2, 1) := by decide +kernel
theorem dX7_adjustment_11 : decode cX7_adjustment 11 = .ok (.invokevirtual 43, 3) := by decide +kernel
theorem dX7_adjustment_14 : decode cX7_adjustment 14 = .ok (.goto 6, 3) := by decide +kernel
theorem dX7_adjustment_17 : decode cX7_adjustment 17 = .ok (.sipush (-1001), 3) := by decide +kernel
theorem dX7_adjustment_20 : decode cX7_adjustment 20 = .ok (.ireturn, 1) := by decide +kernel
set_option maxRecDepth 20000 in
theorem ggX7_pair_X7_in : GoodIn wsX7_pair wsX7_in := goodIn_r _ [5] (by decide +kernel) (by decide +kernel)
set_option maxRecDepth 20000 in
theorem gX7_pair_X7_in : GoodIn wsX7_pair (va_wsS RX7 27 yX7_in wsX7_in) := goodIn_app (goodIn_of _ (by decide +kernel)) ggX7_pair_X7_in
theorem dX7_pair_0 : decode cX7_pair 0 = .ok (.iload_n 1, 1) := by decide +kernel
theorem dX7_pair_1 : decode cX7_pair 1 = .ok (.ifCond .lt 12, 3) := by decide +kernel
theorem dX7_pair_4 : decode cX7_pair 4 = .ok (.iload_n 2, 1) := by decide +kernel
theorem dX7_pair_5 : decode cX7_pair 5 = .ok (.iconst 0, 1) := by decide +kernel
theorem dX7_pair_6 : decode cX7_pair 6 = .ok (.iconst 2, 1) := by decide +kernel
theorem dX7_pair_7 : decode cX7_pair 7 = .ok (.invokestatic 27, 3) := by decide +kernel
theorem dX7_pair_10 : decode cX7_pair 10 = .ok (.ifCond .ne 7, 3) := by decide +kernel
theorem dX7_pair_13 : decode cX7_pair 13 = .ok (.sipush (-1002), 3) := by decide +kernel
theorem dX7_pair_16 : decode cX7_pair 16 = .ok (.ireturn, 1) := by decide +kernel
theorem dX7_pair_17 : decode cX7_pair 17 = .ok (.iload_n 1, 1) := by decide +kernel
theorem dX7_pair_18 : decode cX7_pair 18 = .ok (.aload_n 0, 1) := by decide +kernel
theorem dX7_pair_19 : decode cX7_pair 19 = .ok (.getfield 7, 3) := by decide +kernel
theorem dX7_pair_22 : decode cX7_pair 22 = .ok (.bipush 8, 2) := by decide +kernel
theorem dX7_pair_24 : decode cX7_pair 24 = .ok (.iaload, 1) := by decide +kernel
theorem dX7_pair_25 : decode cX7_pair 25 = .ok (.if_icmp .ge 19, 3) := by decide +kernel
theorem dX7_pair_28 : decode cX7_pair 28 = .ok (.aload_n 0, 1) := by decide +kernel
theorem dX7_pair_29 : decode cX7_pair 29 = .ok (.getfield 7, 3) := by decide +kernel
theorem dX7_pair_32 : decode cX7_pair 32 = .ok (.bipush 9, 2) := by decide +kernel
theorem dX7_pair_34 : decode cX7_pair 34 = .ok (.iconst 3, 1) := by decide +kernel
theorem dX7_pair_35 : decode cX7_pair 35 = .ok (.iload_n 1, 1) := by decide +kernel
theorem dX7_pair_36 : decode cX7_pair 36 = .ok (.imul, 1) := by decide +kernel
theorem dX7_pair_37 : decode cX7_pair 37 = .ok (.iadd, 1) := by decide +kernel
theorem dX7_pair_38 : decode cX7_pair 38 = .ok (.iload_n 2, 1) := by decide +kernel
theorem dX7_pair_39 : decode cX7_pair 39 = .ok (.iadd, 1) := by decide +kernel
theorem dX7_pair_40 : decode cX7_pair 40 = .ok (.iaload, 1) := by decide +kernel
theorem dX7_pair_41 : decode cX7_pair 41 = .ok (.goto 6, 3) := by decide +kernel
theorem dX7_pair_44 : decode cX7_pair 44 = .ok (.sipush (-1005), 3) := by decide +kernel
theorem dX7_pair_47 : decode cX7_pair 47 = .ok (.ireturn, 1) := by decide +kernel
set_option maxRecDepth 20000 in
theorem ggX7_count_X7_engraved : GoodIn wsX7_count wsX7_engraved := goodIn_r _ [8, 1, 9, 10, 11, 7, 12, 17, 18, 19, 20, 21, 22, 23] (by decide +kernel) (by decide +kernel)
set_option maxRecDepth 20000 in
theorem gX7_count_X7_engraved : GoodIn wsX7_count (wsV RX7 81 RX7 yX7_engraved wsX7_engraved) := goodIn_app (goodIn_of _ (by decide +kernel)) ggX7_count_X7_engraved
set_option maxRecDepth 20000 in
theorem ggX7_count_X7_rowsOf : GoodIn wsX7_count wsX7_rowsOf := goodIn_r _ [16, 1, 17, 18, 19, 20, 21, 22, 23] (by decide +kernel) (by decide +kernel)
set_option maxRecDepth 20000 in
theorem gX7_count_X7_rowsOf : GoodIn wsX7_count (wsV RX7 74 RX7 yX7_rowsOf wsX7_rowsOf) := goodIn_app (goodIn_of _ (by decide +kernel)) ggX7_count_X7_rowsOf
theorem dX7_count_0 : decode cX7_count 0 = .ok (.iload_n 1, 1) := by decide +kernel
theorem dX7_count_1 : decode cX7_count 1 = .ok (.tableswitch 120 0 11 #[63, 63, 63, 63, 63, 70, 75, 86, 94, 102, 110, 115], 63) := by decide +kernel
theorem dX7_count_64 : decode cX7_count 64 = .ok (.aload_n 0, 1) := by decide +kernel
theorem dX7_count_65 : decode cX7_count 65 = .ok (.getfield 7, 3) := by decide +kernel
theorem dX7_count_68 : decode cX7_count 68 = .ok (.iload_n 1, 1) := by decide +kernel
theorem dX7_count_69 : decode cX7_count 69 = .ok (.iaload, 1) := by decide +kernel
theorem dX7_count_70 : decode cX7_count 70 = .ok (.ireturn, 1) := by decide +kernel
theorem dX7_count_71 : decode cX7_count 71 = .ok (.aload_n 0, 1) := by decide +kernel
theorem dX7_count_72 : decode cX7_count 72 = .ok (.invokevirtual 81, 3) := by decide +kernel
theorem dX7_count_75 : decode cX7_count 75 = .ok (.ireturn, 1) := by decide +kernel
theorem dX7_count_76 : decode cX7_count 76 = .ok (.aload_n 0, 1) := by decide +kernel
theorem dX7_count_77 : decode cX7_count 77 = .ok (.aload_n 0, 1) := by decide +kernel
theorem dX7_count_78 : decode cX7_count 78 = .ok (.getfield 7, 3) := by decide +kernel
theorem dX7_count_81 : decode cX7_count 81 = .ok (.iconst 4, 1) := by decide +kernel
theorem dX7_count_82 : decode cX7_count 82 = .ok (.iaload, 1) := by decide +kernel
theorem dX7_count_83 : decode cX7_count 83 = .ok (.invokevirtual 74, 3) := by decide +kernel
theorem dX7_count_86 : decode cX7_count 86 = .ok (.ireturn, 1) := by decide +kernel
theorem dX7_count_87 : decode cX7_count 87 = .ok (.aload_n 0, 1) := by decide +kernel
theorem dX7_count_88 : decode cX7_count 88 = .ok (.getfield 7, 3) := by decide +kernel
theorem dX7_count_91 : decode cX7_count 91 = .ok (.bipush 6, 2) := by decide +kernel
theorem dX7_count_93 : decode cX7_count 93 = .ok (.iaload, 1) := by decide +kernel
theorem dX7_count_94 : decode cX7_count 94 = .ok (.ireturn, 1) := by decide +kernel
theorem dX7_count_95 : decode cX7_count 95 = .ok (.aload_n 0, 1) := by decide +kernel
theorem dX7_count_96 : decode cX7_count 96 = .ok (.getfield 7, 3) := by decide +kernel
theorem dX7_count_99 : decode cX7_count 99 = .ok (.bipush 7, 2) := by decide +kernel
theorem dX7_count_101 : decode cX7_count 101 = .ok (.iaload, 1) := by decide +kernel
theorem dX7_count_102 : decode cX7_count 102 = .ok (.ireturn, 1) := by decide +kernel
theorem dX7_count_103 : decode cX7_count 103 = .ok (.aload_n 0, 1) := by decide +kernel
theorem dX7_count_104 : decode cX7_count 104 = .ok (.getfield 7, 3) := by decide +kernel
theorem dX7_count_107 : decode cX7_count 107 = .ok (.bipush 8, 2) := by decide +kernel
theorem dX7_count_109 : decode cX7_count 109 = .ok (.iaload, 1) := by decide +kernel
theorem dX7_count_110 : decode cX7_count 110 = .ok (.ireturn, 1) := by decide +kernel
theorem dX7_count_111 : decode cX7_count 111 = .ok (.aload_n 0, 1) := by decide +kernel
theorem dX7_count_112 : decode cX7_count 112 = .ok (.getfield 23, 3) := by decide +kernel
theorem dX7_count_115 : decode cX7_count 115 = .ok (.ireturn, 1) := by decide +kernel
theorem dX7_count_116 : decode cX7_count 116 = .ok (.aload_n 0, 1) := by decide +kernel
theorem dX7_count_117 : decode cX7_count 117 = .ok (.getfield 122, 3) := by decide +kernel
theorem dX7_count_120 : decode cX7_count 120 = .ok (.ireturn, 1) := by decide +kernel
theorem dX7_count_121 : decode cX7_count 121 = .ok (.sipush (-1002), 3) := by decide +kernel
