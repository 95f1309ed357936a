theorem dX4_engravableSeats_0 : decode cX4_engravableSeats 0 = .ok (.iconst 0, 1) := by decide +kernel
theorem dX4_engravableSeats_1 : decode cX4_engravableSeats 1 = .ok (.istore_n 2, 1) := by decide +kernel
theorem dX4_engravableSeats_2 : decode cX4_engravableSeats 2 = .ok (.iconst 0, 1) := by decide +kernel
theorem dX4_engravableSeats_3 : decode cX4_engravableSeats 3 = .ok (.istore_n 3, 1) := by decide +kernel
theorem dX4_engravableSeats_4 : decode cX4_engravableSeats 4 = .ok (.iload_n 3, 1) := by decide +kernel
theorem dX4_engravableSeats_5 : decode cX4_engravableSeats 5 = .ok (.aload_n 0, 1) := by decide +kernel
theorem dX4_engravableSeats_6 : decode cX4_engravableSeats 6 = .ok (.getfield 12, 3) := by decide +kernel
theorem dX4_engravableSeats_9 : decode cX4_engravableSeats 9 = .ok (.getfield 67, 3) := by decide +kernel
theorem dX4_engravableSeats_12 : decode cX4_engravableSeats 12 = .ok (.if_icmp .ge 32, 3) := by decide +kernel
theorem dX4_engravableSeats_15 : decode cX4_engravableSeats 15 = .ok (.aload_n 0, 1) := by decide +kernel
theorem dX4_engravableSeats_16 : decode cX4_engravableSeats 16 = .ok (.iload_n 3, 1) := by decide +kernel
theorem dX4_engravableSeats_17 : decode cX4_engravableSeats 17 = .ok (.invokevirtual 70, 3) := by decide +kernel
theorem dX4_engravableSeats_20 : decode cX4_engravableSeats 20 = .ok (.ifCond .ne 18, 3) := by decide +kernel
theorem dX4_engravableSeats_23 : decode cX4_engravableSeats 23 = .ok (.aload_n 0, 1) := by decide +kernel
theorem dX4_engravableSeats_24 : decode cX4_engravableSeats 24 = .ok (.iload_n 3, 1) := by decide +kernel
theorem dX4_engravableSeats_25 : decode cX4_engravableSeats 25 = .ok (.iload_n 1, 1) := by decide +kernel
theorem dX4_engravableSeats_26 : decode cX4_engravableSeats 26 = .ok (.invokevirtual 74, 3) := by decide +kernel
theorem dX4_engravableSeats_29 : decode cX4_engravableSeats 29 = .ok (.ifCond .eq 9, 3) := by decide +kernel
theorem dX4_engravableSeats_32 : decode cX4_engravableSeats 32 = .ok (.iload_n 2, 1) := by decide +kernel
theorem dX4_engravableSeats_33 : decode cX4_engravableSeats 33 = .ok (.iconst 1, 1) := by decide +kernel
theorem dX4_engravableSeats_34 : decode cX4_engravableSeats 34 = .ok (.iload_n 3, 1) := by decide +kernel
theorem dX4_engravableSeats_35 : decode cX4_engravableSeats 35 = .ok (.ishl, 1) := by decide +kernel
theorem dX4_engravableSeats_36 : decode cX4_engravableSeats 36 = .ok (.ior, 1) := by decide +kernel
theorem dX4_engravableSeats_37 : decode cX4_engravableSeats 37 = .ok (.istore_n 2, 1) := by decide +kernel
theorem dX4_engravableSeats_38 : decode cX4_engravableSeats 38 = .ok (.iinc 3 1, 3) := by decide +kernel
theorem dX4_engravableSeats_41 : decode cX4_engravableSeats 41 = .ok (.goto (-37), 3) := by decide +kernel
theorem dX4_engravableSeats_44 : decode cX4_engravableSeats 44 = .ok (.iload_n 2, 1) := by decide +kernel
theorem dX4_engravableSeats_45 : decode cX4_engravableSeats 45 = .ok (.ireturn, 1) := by decide +kernel
theorem dX4_markEngraved_0 : decode cX4_markEngraved 0 = .ok (.aload_n 0, 1) := by decide +kernel
theorem dX4_markEngraved_1 : decode cX4_markEngraved 1 = .ok (.dup, 1) := by decide +kernel
theorem dX4_markEngraved_2 : decode cX4_markEngraved 2 = .ok (.getfield 38, 3) := by decide +kernel
theorem dX4_markEngraved_5 : decode cX4_markEngraved 5 = .ok (.iload_n 1, 1) := by decide +kernel
theorem dX4_markEngraved_6 : decode cX4_markEngraved 6 = .ok (.ior, 1) := by decide +kernel
theorem dX4_markEngraved_7 : decode cX4_markEngraved 7 = .ok (.putfield 38, 3) := by decide +kernel
theorem dX4_markEngraved_10 : decode cX4_markEngraved 10 = .ok (.aload_n 0, 1) := by decide +kernel
theorem dX4_markEngraved_11 : decode cX4_markEngraved 11 = .ok (.iload_n 2, 1) := by decide +kernel
theorem dX4_markEngraved_12 : decode cX4_markEngraved 12 = .ok (.putfield 41, 3) := by decide +kernel
theorem dX4_markEngraved_15 : decode cX4_markEngraved 15 = .ok (.return_, 1) := by decide +kernel
set_option maxRecDepth 20000 in
theorem ggX4_isEngravedPair_X4_isEngraved : GoodIn wsX4_isEngravedPair wsX4_isEngraved := goodIn_r _ [6, 7, 23, 24, 25, 26, 27, 28, 29, 30, 31, 32] (by decide +kernel) (by decide +kernel)
set_option maxRecDepth 20000 in
theorem gX4_isEngravedPair_X4_isEngraved : GoodIn wsX4_isEngravedPair (wsV RX4 70 RX4 yX4_isEngraved wsX4_isEngraved) := goodIn_app (goodIn_of _ (by decide +kernel)) ggX4_isEngravedPair_X4_isEngraved
set_option maxRecDepth 20000 in
theorem ggX4_isEngravedPair_X4_hasPair : GoodIn wsX4_isEngravedPair wsX4_hasPair := goodIn_r _ [11, 1, 12, 13, 14, 15, 16, 17, 18, 19, 20, 21, 22, 23, 24, 25, 26, 27, 28, 29, 30, 31, 32, 33, 34, 35] (by decide +kernel) (by decide +kernel)
set_option maxRecDepth 20000 in
theorem gX4_isEngravedPair_X4_hasPair : GoodIn wsX4_isEngravedPair (wsV RX4 78 RX4 yX4_hasPair wsX4_hasPair) := goodIn_app (goodIn_of _ (by decide +kernel)) ggX4_isEngravedPair_X4_hasPair
theorem dX4_isEngravedPair_0 : decode cX4_isEngravedPair 0 = .ok (.iconst 0, 1) := by decide +kernel
theorem dX4_isEngravedPair_1 : decode cX4_isEngravedPair 1 = .ok (.istore_n 3, 1) := by decide +kernel
theorem dX4_isEngravedPair_2 : decode cX4_isEngravedPair 2 = .ok (.iload_n 3, 1) := by decide +kernel
theorem dX4_isEngravedPair_3 : decode cX4_isEngravedPair 3 = .ok (.aload_n 0, 1) := by decide +kernel
theorem dX4_isEngravedPair_4 : decode cX4_isEngravedPair 4 = .ok (.getfield 12, 3) := by decide +kernel
theorem dX4_isEngravedPair_7 : decode cX4_isEngravedPair 7 = .ok (.getfield 67, 3) := by decide +kernel
theorem dX4_isEngravedPair_10 : decode cX4_isEngravedPair 10 = .ok (.if_icmp .ge 29, 3) := by decide +kernel
theorem dX4_isEngravedPair_13 : decode cX4_isEngravedPair 13 = .ok (.aload_n 0, 1) := by decide +kernel
theorem dX4_isEngravedPair_14 : decode cX4_isEngravedPair 14 = .ok (.iload_n 3, 1) := by decide +kernel
theorem dX4_isEngravedPair_15 : decode cX4_isEngravedPair 15 = .ok (.invokevirtual 70, 3) := by decide +kernel
theorem dX4_isEngravedPair_18 : decode cX4_isEngravedPair 18 = .ok (.ifCond .eq 15, 3) := by decide +kernel
theorem dX4_isEngravedPair_21 : decode cX4_isEngravedPair 21 = .ok (.aload_n 0, 1) := by decide +kernel
theorem dX4_isEngravedPair_22 : decode cX4_isEngravedPair 22 = .ok (.iload_n 3, 1) := by decide +kernel
theorem dX4_isEngravedPair_23 : decode cX4_isEngravedPair 23 = .ok (.iload_n 1, 1) := by decide +kernel
theorem dX4_isEngravedPair_24 : decode cX4_isEngravedPair 24 = .ok (.iload_n 2, 1) := by decide +kernel
theorem dX4_isEngravedPair_25 : decode cX4_isEngravedPair 25 = .ok (.invokevirtual 78, 3) := by decide +kernel
theorem dX4_isEngravedPair_28 : decode cX4_isEngravedPair 28 = .ok (.ifCond .eq 5, 3) := by decide +kernel
theorem dX4_isEngravedPair_31 : decode cX4_isEngravedPair 31 = .ok (.iconst 1, 1) := by decide +kernel
theorem dX4_isEngravedPair_32 : decode cX4_isEngravedPair 32 = .ok (.ireturn, 1) := by decide +kernel
theorem dX4_isEngravedPair_33 : decode cX4_isEngravedPair 33 = .ok (.iinc 3 1, 3) := by decide +kernel
theorem dX4_isEngravedPair_36 : decode cX4_isEngravedPair 36 = .ok (.goto (-34), 3) := by decide +kernel
theorem dX4_isEngravedPair_39 : decode cX4_isEngravedPair 39 = .ok (.iconst 0, 1) := by decide +kernel
theorem dX4_isEngravedPair_40 : decode cX4_isEngravedPair 40 = .ok (.ireturn, 1) := by decide +kernel
set_option maxRecDepth 20000 in
theorem ggX4_hasPair_X1_lengthOf : GoodIn wsX4_hasPair wsX1_lengthOf := goodIn_r _ [6, 7, 23, 24, 25] (by decide +kernel) (by decide +kernel)
set_option maxRecDepth 20000 in
theorem gX4_hasPair_X1_lengthOf : GoodIn wsX4_hasPair (wsV RX4 82 RX1 yX1_lengthOf wsX1_lengthOf) := goodIn_app (goodIn_of _ (by decide +kernel)) ggX4_hasPair_X1_lengthOf
set_option maxRecDepth 20000 in
theorem ggX4_hasPair_X1_codeAt : GoodIn wsX4_hasPair wsX1_codeAt := goodIn_r _ [11, 12, 23, 24, 25] (by decide +kernel) (by decide +kernel)
set_option maxRecDepth 20000 in
theorem gX4_hasPair_X1_codeAt : GoodIn wsX4_hasPair (wsV RX4 85 RX1 yX1_codeAt wsX1_codeAt) := goodIn_app (goodIn_of _ (by decide +kernel)) ggX4_hasPair_X1_codeAt
theorem dX4_hasPair_0 : decode cX4_hasPair 0 = .ok (.iconst 1, 1) := by decide +kernel
theorem dX4_hasPair_1 : decode cX4_hasPair 1 = .ok (.istore 4, 2) := by decide +kernel
theorem dX4_hasPair_3 : decode cX4_hasPair 3 = .ok (.iload 4, 2) := by decide +kernel
theorem dX4_hasPair_5 : decode cX4_hasPair 5 = .ok (.aload_n 0, 1) := by decide +kernel
theorem dX4_hasPair_6 : decode cX4_hasPair 6 = .ok (.getfield 12, 3) := by decide +kernel
theorem dX4_hasPair_9 : decode cX4_hasPair 9 = .ok (.iload_n 1, 1) := by decide +kernel
theorem dX4_hasPair_10 : decode cX4_hasPair 10 = .ok (.invokevirtual 82, 3) := by decide +kernel
theorem dX4_hasPair_13 : decode cX4_hasPair 13 = .ok (.if_icmp .ge 41, 3) := by decide +kernel
theorem dX4_hasPair_16 : decode cX4_hasPair 16 = .ok (.aload_n 0, 1) := by decide +kernel
theorem dX4_hasPair_17 : decode cX4_hasPair 17 = .ok (.getfield 12, 3) := by decide +kernel
theorem dX4_hasPair_20 : decode cX4_hasPair 20 = .ok (.iload_n 1, 1) := by decide +kernel
theorem dX4_hasPair_21 : decode cX4_hasPair 21 = .ok (.iload 4, 2) := by decide +kernel
theorem dX4_hasPair_23 : decode cX4_hasPair 23 = .ok (.iconst 1, 1) := by decide +kernel
theorem dX4_hasPair_24 : decode cX4_hasPair 24 = .ok (.isub, 1) := by decide +kernel
theorem dX4_hasPair_25 : decode cX4_hasPair 25 = .ok (.invokevirtual 85, 3) := by decide +kernel
theorem dX4_hasPair_28 : decode cX4_hasPair 28 = .ok (.iload_n 2, 1) := by decide +kernel
theorem dX4_hasPair_29 : decode cX4_hasPair 29 = .ok (.if_icmp .ne 19, 3) := by decide +kernel
theorem dX4_hasPair_32 : decode cX4_hasPair 32 = .ok (.aload_n 0, 1) := by decide +kernel
theorem dX4_hasPair_33 : decode cX4_hasPair 33 = .ok (.getfield 12, 3) := by decide +kernel
theorem dX4_hasPair_36 : decode cX4_hasPair 36 = .ok (.iload_n 1, 1) := by decide +kernel
theorem dX4_hasPair_37 : decode cX4_hasPair 37 = .ok (.iload 4, 2) := by decide +kernel
theorem dX4_hasPair_39 : decode cX4_hasPair 39 = .ok (.invokevirtual 85, 3) := by decide +kernel
theorem dX4_hasPair_42 : decode cX4_hasPair 42 = .ok (.iload_n 3, 1) := by decide +kernel
theorem dX4_hasPair_43 : decode cX4_hasPair 43 = .ok (.if_icmp .ne 5, 3) := by decide +kernel
theorem dX4_hasPair_46 : decode cX4_hasPair 46 = .ok (.iconst 1, 1) := by decide +kernel
theorem dX4_hasPair_47 : decode cX4_hasPair 47 = .ok (.ireturn, 1) := by decide +kernel
theorem dX4_hasPair_48 : decode cX4_hasPair 48 = .ok (.iinc 4 1, 3) := by decide +kernel
theorem dX4_hasPair_51 : decode cX4_hasPair 51 = .ok (.goto (-48), 3) := by decide +kernel
theorem dX4_hasPair_54 : decode cX4_hasPair 54 = .ok (.iconst 0, 1) := by decide +kernel
theorem dX4_hasPair_55 : decode cX4_hasPair 55 = .ok (.ireturn, 1) := by decide +kernel
set_option maxRecDepth 20000 in
theorem ggX4_adjustmentOf_X2_placeOf : GoodIn wsX4_adjustmentOf wsX2_placeOf := goodIn_r _ [6, 7, 8, 9, 25, 26, 27, 28] (by decide +kernel) (by decide +kernel)
set_option maxRecDepth 20000 in
theorem gX4_adjustmentOf_X2_placeOf : GoodIn wsX4_adjustmentOf (wsV RX4 89 RX2 yX2_placeOf wsX2_placeOf) := goodIn_app (goodIn_of _ (by decide +kernel)) ggX4_adjustmentOf_X2_placeOf
set_option maxRecDepth 20000 in
theorem ggX4_adjustmentOf_X2_adjustmentAt : GoodIn wsX4_adjustmentOf wsX2_adjustmentAt := goodIn_r _ [13, 7, 14, 25, 26, 27, 28] (by decide +kernel) (by decide +kernel)
set_option maxRecDepth 20000 in
theorem gX4_adjustmentOf_X2_adjustmentAt : GoodIn wsX4_adjustmentOf (wsV RX4 93 RX2 yX2_adjustmentAt wsX2_adjustmentAt) := goodIn_app (goodIn_of _ (by decide +kernel)) ggX4_adjustmentOf_X2_adjustmentAt
theorem dX4_adjustmentOf_0 : decode cX4_adjustmentOf 0 = .ok (.aload_n 0, 1) := by decide +kernel
theorem dX4_adjustmentOf_1 : decode cX4_adjustmentOf 1 = .ok (.getfield 21, 3) := by decide +kernel
theorem dX4_adjustmentOf_4 : decode cX4_adjustmentOf 4 = .ok (.aload_n 0, 1) := by decide +kernel
theorem dX4_adjustmentOf_5 : decode cX4_adjustmentOf 5 = .ok (.getfield 21, 3) := by decide +kernel
theorem dX4_adjustmentOf_8 : decode cX4_adjustmentOf 8 = .ok (.iload_n 1, 1) := by decide +kernel
theorem dX4_adjustmentOf_9 : decode cX4_adjustmentOf 9 = .ok (.iload_n 2, 1) := by decide +kernel
theorem dX4_adjustmentOf_10 : decode cX4_adjustmentOf 10 = .ok (.invokevirtual 89, 3) := by decide +kernel
theorem dX4_adjustmentOf_13 : decode cX4_adjustmentOf 13 = .ok (.invokevirtual 93, 3) := by decide +kernel
theorem dX4_adjustmentOf_16 : decode cX4_adjustmentOf 16 = .ok (.ireturn, 1) := by decide +kernel
set_option maxRecDepth 20000 in
theorem ggX4_spaceBehind_X1_lengthOf : GoodIn wsX4_spaceBehind wsX1_lengthOf := goodIn_r _ [11, 12, 45, 46, 47] (by decide +kernel) (by decide +kernel)
set_option maxRecDepth 20000 in
theorem gX4_spaceBehind_X1_lengthOf : GoodIn wsX4_spaceBehind (wsV RX4 82 RX1 yX1_lengthOf wsX1_lengthOf) := goodIn_app (goodIn_of _ (by decide +kernel)) ggX4_spaceBehind_X1_lengthOf
set_option maxRecDepth 20000 in
theorem ggX4_spaceBehind_X1_codeAt : GoodIn wsX4_spaceBehind wsX1_codeAt := goodIn_r _ [16, 17, 45, 46, 47] (by decide +kernel) (by decide +kernel)
set_option maxRecDepth 20000 in
theorem gX4_spaceBehind_X1_codeAt : GoodIn wsX4_spaceBehind (wsV RX4 85 RX1 yX1_codeAt wsX1_codeAt) := goodIn_app (goodIn_of _ (by decide +kernel)) ggX4_spaceBehind_X1_codeAt
set_option maxRecDepth 20000 in
theorem ggX4_spaceBehind_X2_placeOf : GoodIn wsX4_spaceBehind wsX2_placeOf := goodIn_r _ [22, 23, 24, 25, 48, 49, 50, 51] (by decide +kernel) (by decide +kernel)
set_option maxRecDepth 20000 in
theorem gX4_spaceBehind_X2_placeOf : GoodIn wsX4_spaceBehind (wsV RX4 89 RX2 yX2_placeOf wsX2_placeOf) := goodIn_app (goodIn_of _ (by decide +kernel)) ggX4_spaceBehind_X2_placeOf
set_option maxRecDepth 20000 in
theorem ggX4_spaceBehind_X2_adjustmentAt : GoodIn wsX4_spaceBehind wsX2_adjustmentAt := goodIn_r _ [29, 23, 30, 48, 49, 50, 51] (by decide +kernel) (by decide +kernel)
set_option maxRecDepth 20000 in
theorem gX4_spaceBehind_X2_adjustmentAt : GoodIn wsX4_spaceBehind (wsV RX4 93 RX2 yX2_adjustmentAt wsX2_adjustmentAt) := goodIn_app (goodIn_of _ (by decide +kernel)) ggX4_spaceBehind_X2_adjustmentAt
set_option maxRecDepth 20000 in
theorem ggX4_spaceBehind_X3_openness : GoodIn wsX4_spaceBehind wsX3_openness := goodIn_r _ [34] (by decide +kernel) (by decide +kernel)
set_option maxRecDepth 20000 in
theorem gX4_spaceBehind_X3_openness : GoodIn wsX4_spaceBehind (va_wsS RX4 96 yX3_openness wsX3_openness) := goodIn_app (goodIn_of _ (by decide +kernel)) ggX4_spaceBehind_X3_openness
theorem dX4_spaceBehind_0 : decode cX4_spaceBehind 0 = .ok (.iload_n 2, 1) := by decide +kernel
theorem dX4_spaceBehind_1 : decode cX4_spaceBehind 1 = .ok (.iconst 1, 1) := by decide +kernel
theorem dX4_spaceBehind_2 : decode cX4_spaceBehind 2 = .ok (.iadd, 1) := by decide +kernel
theorem dX4_spaceBehind_3 : decode cX4_spaceBehind 3 = .ok (.aload_n 0, 1) := by decide +kernel
theorem dX4_spaceBehind_4 : decode cX4_spaceBehind 4 = .ok (.getfield 12, 3) := by decide +kernel
theorem dX4_spaceBehind_7 : decode cX4_spaceBehind 7 = .ok (.iload_n 1, 1) := by decide +kernel
theorem dX4_spaceBehind_8 : decode cX4_spaceBehind 8 = .ok (.invokevirtual 82, 3) := by decide +kernel
theorem dX4_spaceBehind_11 : decode cX4_spaceBehind 11 = .ok (.if_icmp .lt 5, 3) := by decide +kernel
theorem dX4_spaceBehind_14 : decode cX4_spaceBehind 14 = .ok (.iconst 0, 1) := by decide +kernel
theorem dX4_spaceBehind_15 : decode cX4_spaceBehind 15 = .ok (.ireturn, 1) := by decide +kernel
theorem dX4_spaceBehind_16 : decode cX4_spaceBehind 16 = .ok (.aload_n 0, 1) := by decide +kernel
theorem dX4_spaceBehind_17 : decode cX4_spaceBehind 17 = .ok (.getfield 12, 3) := by decide +kernel
theorem dX4_spaceBehind_20 : decode cX4_spaceBehind 20 = .ok (.iload_n 1, 1) := by decide +kernel
theorem dX4_spaceBehind_21 : decode cX4_spaceBehind 21 = .ok (.iload_n 2, 1) := by decide +kernel
theorem dX4_spaceBehind_22 : decode cX4_spaceBehind 22 = .ok (.invokevirtual 85, 3) := by decide +kernel
theorem dX4_spaceBehind_25 : decode cX4_spaceBehind 25 = .ok (.istore_n 3, 1) := by decide +kernel
theorem dX4_spaceBehind_26 : decode cX4_spaceBehind 26 = .ok (.aload_n 0, 1) := by decide +kernel
theorem dX4_spaceBehind_27 : decode cX4_spaceBehind 27 = .ok (.getfield 12, 3) := by decide +kernel
theorem dX4_spaceBehind_30 : decode cX4_spaceBehind 30 = .ok (.iload_n 1, 1) := by decide +kernel
theorem dX4_spaceBehind_31 : decode cX4_spaceBehind 31 = .ok (.iload_n 2, 1) := by decide +kernel
theorem dX4_spaceBehind_32 : decode cX4_spaceBehind 32 = .ok (.iconst 1, 1) := by decide +kernel
theorem dX4_spaceBehind_33 : decode cX4_spaceBehind 33 = .ok (.iadd, 1) := by decide +kernel
theorem dX4_spaceBehind_34 : decode cX4_spaceBehind 34 = .ok (.invokevirtual 85, 3) := by decide +kernel
theorem dX4_spaceBehind_37 : decode cX4_spaceBehind 37 = .ok (.istore 4, 2) := by decide +kernel
theorem dX4_spaceBehind_39 : decode cX4_spaceBehind 39 = .ok (.aload_n 0, 1) := by decide +kernel
theorem dX4_spaceBehind_40 : decode cX4_spaceBehind 40 = .ok (.getfield 21, 3) := by decide +kernel
theorem dX4_spaceBehind_43 : decode cX4_spaceBehind 43 = .ok (.aload_n 0, 1) := by decide +kernel
theorem dX4_spaceBehind_44 : decode cX4_spaceBehind 44 = .ok (.getfield 21, 3) := by decide +kernel
theorem dX4_spaceBehind_47 : decode cX4_spaceBehind 47 = .ok (.iload_n 3, 1) := by decide +kernel
theorem dX4_spaceBehind_48 : decode cX4_spaceBehind 48 = .ok (.iload 4, 2) := by decide +kernel
theorem dX4_spaceBehind_50 : decode cX4_spaceBehind 50 = .ok (.invokevirtual 89, 3) := by decide +kernel
theorem dX4_spaceBehind_53 : decode cX4_spaceBehind 53 = .ok (.invokevirtual 93, 3) := by decide +kernel
theorem dX4_spaceBehind_56 : decode cX4_spaceBehind 56 = .ok (.istore 5, 2) := by decide +kernel
theorem dX4_spaceBehind_58 : decode cX4_spaceBehind 58 = .ok (.iconst 1, 1) := by decide +kernel
theorem dX4_spaceBehind_59 : decode cX4_spaceBehind 59 = .ok (.bipush 6, 2) := by decide +kernel
theorem dX4_spaceBehind_61 : decode cX4_spaceBehind 61 = .ok (.iload_n 3, 1) := by decide +kernel
theorem dX4_spaceBehind_62 : decode cX4_spaceBehind 62 = .ok (.invokestatic 96, 3) := by decide +kernel
theorem dX4_spaceBehind_65 : decode cX4_spaceBehind 65 = .ok (.isub, 1) := by decide +kernel
theorem dX4_spaceBehind_66 : decode cX4_spaceBehind 66 = .ok (.iload 4, 2) := by decide +kernel
theorem dX4_spaceBehind_68 : decode cX4_spaceBehind 68 = .ok (.invokestatic 96, 3) := by decide +kernel
theorem dX4_spaceBehind_71 : decode cX4_spaceBehind 71 = .ok (.isub, 1) := by decide +kernel
theorem dX4_spaceBehind_72 : decode cX4_spaceBehind 72 = .ok (.iload 5, 2) := by decide +kernel
theorem dX4_spaceBehind_74 : decode cX4_spaceBehind 74 = .ok (.iadd, 1) := by decide +kernel
theorem dX4_spaceBehind_75 : decode cX4_spaceBehind 75 = .ok (.invokestatic 102, 3) := by decide +kernel
theorem dX4_spaceBehind_78 : decode cX4_spaceBehind 78 = .ok (.ireturn, 1) := by decide +kernel
set_option maxRecDepth 20000 in
theorem ggX4_measuredSpace_X4_spaceBehind : GoodIn wsX4_measuredSpace wsX4_spaceBehind := goodIn_r _ [6, 1, 7, 8, 9, 10, 11, 12, 13, 14, 15, 16, 17, 18, 19, 20, 21, 22, 23, 24, 25, 26, 27, 28, 29, 30, 31, 32, 33, 34, 35, 36, 37, 38, 39, 40, 41, 42, 43, 44, 45, 46, 47, 48, 49, 50, 51, 52, 53, 54, 55, 56] (by decide +kernel) (by decide +kernel)
set_option maxRecDepth 20000 in
theorem gX4_measuredSpace_X4_spaceBehind : GoodIn wsX4_measuredSpace (wsV RX4 108 RX4 yX4_spaceBehind wsX4_spaceBehind) := goodIn_app (goodIn_of _ (by decide +kernel)) ggX4_measuredSpace_X4_spaceBehind
set_option maxRecDepth 20000 in
theorem ggX4_measuredSpace_X1_codeAt : GoodIn wsX4_measuredSpace wsX1_codeAt := goodIn_r _ [21, 22, 50, 51, 52] (by decide +kernel) (by decide +kernel)
set_option maxRecDepth 20000 in
theorem gX4_measuredSpace_X1_codeAt : GoodIn wsX4_measuredSpace (wsV RX4 85 RX1 yX1_codeAt wsX1_codeAt) := goodIn_app (goodIn_of _ (by decide +kernel)) ggX4_measuredSpace_X1_codeAt
set_option maxRecDepth 20000 in
theorem ggX4_measuredSpace_X3_openness : GoodIn wsX4_measuredSpace wsX3_openness := goodIn_r _ [39] (by decide +kernel) (by decide +kernel)
set_option maxRecDepth 20000 in
theorem gX4_measuredSpace_X3_openness : GoodIn wsX4_measuredSpace (va_wsS RX4 96 yX3_openness wsX3_openness) := goodIn_app (goodIn_of _ (by decide +kernel)) ggX4_measuredSpace_X3_openness
theorem dX4_measuredSpace_0 : decode cX4_measuredSpace 0 = .ok (.aload_n 0, 1) := by decide +kernel
theorem dX4_measuredSpace_1 : decode cX4_measuredSpace 1 = .ok (.iload_n 1, 1) := by decide +kernel
theorem dX4_measuredSpace_2 : decode cX4_measuredSpace 2 = .ok (.iload_n 2, 1) := by decide +kernel
theorem dX4_measuredSpace_3 : decode cX4_measuredSpace 3 = .ok (.invokevirtual 108, 3) := by decide +kernel
theorem dX4_measuredSpace_6 : decode cX4_measuredSpace 6 = .ok (.aload_n 0, 1) := by decide +kernel
theorem dX4_measuredSpace_7 : decode cX4_measuredSpace 7 = .ok (.getfield 12, 3) := by decide +kernel
theorem dX4_measuredSpace_10 : decode cX4_measuredSpace 10 = .ok (.iload_n 1, 1) := by decide +kernel
theorem dX4_measuredSpace_11 : decode cX4_measuredSpace 11 = .ok (.iload_n 2, 1) := by decide +kernel
theorem dX4_measuredSpace_12 : decode cX4_measuredSpace 12 = .ok (.invokevirtual 85, 3) := by decide +kernel
theorem dX4_measuredSpace_15 : decode cX4_measuredSpace 15 = .ok (.invokestatic 96, 3) := by decide +kernel
theorem dX4_measuredSpace_18 : decode cX4_measuredSpace 18 = .ok (.iadd, 1) := by decide +kernel
theorem dX4_measuredSpace_19 : decode cX4_measuredSpace 19 = .ok (.aload_n 0, 1) := by decide +kernel
theorem dX4_measuredSpace_20 : decode cX4_measuredSpace 20 = .ok (.getfield 12, 3) := by decide +kernel
theorem dX4_measuredSpace_23 : decode cX4_measuredSpace 23 = .ok (.iload_n 1, 1) := by decide +kernel
theorem dX4_measuredSpace_24 : decode cX4_measuredSpace 24 = .ok (.iload_n 2, 1) := by decide +kernel
theorem dX4_measuredSpace_25 : decode cX4_measuredSpace 25 = .ok (.iconst 1, 1) := by decide +kernel
theorem dX4_measuredSpace_26 : decode cX4_measuredSpace 26 = .ok (.iadd, 1) := by decide +kernel
theorem dX4_measuredSpace_27 : decode cX4_measuredSpace 27 = .ok (.invokevirtual 85, 3) := by decide +kernel
theorem dX4_measuredSpace_30 : decode cX4_measuredSpace 30 = .ok (.invokestatic 96, 3) := by decide +kernel
theorem dX4_measuredSpace_33 : decode cX4_measuredSpace 33 = .ok (.iadd, 1) := by decide +kernel
theorem dX4_measuredSpace_34 : decode cX4_measuredSpace 34 = .ok (.ireturn, 1) := by decide +kernel
set_option maxRecDepth 20000 in
theorem ggX4_unitsBefore_X1_codeAt : GoodIn wsX4_unitsBefore wsX1_codeAt := goodIn_r _ [6, 7, 53, 54, 55] (by decide +kernel) (by decide +kernel)
set_option maxRecDepth 20000 in
theorem gX4_unitsBefore_X1_codeAt : GoodIn wsX4_unitsBefore (wsV RX4 85 RX1 yX1_codeAt wsX1_codeAt) := goodIn_app (goodIn_of _ (by decide +kernel)) ggX4_unitsBefore_X1_codeAt
set_option maxRecDepth 20000 in
theorem ggX4_unitsBefore_X3_width : GoodIn wsX4_unitsBefore wsX3_width := goodIn_r _ [11] (by decide +kernel) (by decide +kernel)
set_option maxRecDepth 20000 in
theorem gX4_unitsBefore_X3_width : GoodIn wsX4_unitsBefore (va_wsS RX4 111 yX3_width wsX3_width) := goodIn_app (goodIn_of _ (by decide +kernel)) ggX4_unitsBefore_X3_width
set_option maxRecDepth 20000 in
theorem ggX4_unitsBefore_X4_spaceBehind : GoodIn wsX4_unitsBefore wsX4_spaceBehind := goodIn_r _ [16, 1, 17, 18, 19, 20, 21, 22, 23, 24, 5, 25, 26, 2, 3, 4, 6, 7, 27, 28, 29, 30, 31, 32, 33, 34, 35, 36, 37, 38, 39, 40, 41, 10, 42, 43, 44, 45, 46, 47, 48, 49, 50, 51, 52, 53, 54, 55, 56, 57, 58, 59] (by decide +kernel) (by decide +kernel)
set_option maxRecDepth 20000 in
theorem gX4_unitsBefore_X4_spaceBehind : GoodIn wsX4_unitsBefore (wsV RX4 108 RX4 yX4_spaceBehind wsX4_spaceBehind) := goodIn_app (goodIn_of _ (by decide +kernel)) ggX4_unitsBefore_X4_spaceBehind
theorem dX4_unitsBefore_0 : decode cX4_unitsBefore 0 = .ok (.iconst 0, 1) := by decide +kernel
theorem dX4_unitsBefore_1 : decode cX4_unitsBefore 1 = .ok (.istore_n 3, 1) := by decide +kernel
theorem dX4_unitsBefore_2 : decode cX4_unitsBefore 2 = .ok (.iconst 0, 1) := by decide +kernel
theorem dX4_unitsBefore_3 : decode cX4_unitsBefore 3 = .ok (.istore 4, 2) := by decide +kernel
theorem dX4_unitsBefore_5 : decode cX4_unitsBefore 5 = .ok (.iload 4, 2) := by decide +kernel
theorem dX4_unitsBefore_7 : decode cX4_unitsBefore 7 = .ok (.iload_n 2, 1) := by decide +kernel
theorem dX4_unitsBefore_8 : decode cX4_unitsBefore 8 = .ok (.if_icmp .ge 40, 3) := by decide +kernel
theorem dX4_unitsBefore_11 : decode cX4_unitsBefore 11 = .ok (.iload 4, 2) := by decide +kernel
theorem dX4_unitsBefore_13 : decode cX4_unitsBefore 13 = .ok (.bipush 16, 2) := by decide +kernel
theorem dX4_unitsBefore_15 : decode cX4_unitsBefore 15 = .ok (.if_icmp .ge 33, 3) := by decide +kernel
theorem dX4_unitsBefore_18 : decode cX4_unitsBefore 18 = .ok (.iload_n 3, 1) := by decide +kernel
theorem dX4_unitsBefore_19 : decode cX4_unitsBefore 19 = .ok (.aload_n 0, 1) := by decide +kernel
theorem dX4_unitsBefore_20 : decode cX4_unitsBefore 20 = .ok (.getfield 12, 3) := by decide +kernel
theorem dX4_unitsBefore_23 : decode cX4_unitsBefore 23 = .ok (.iload_n 1, 1) := by decide +kernel
theorem dX4_unitsBefore_24 : decode cX4_unitsBefore 24 = .ok (.iload 4, 2) := by decide +kernel
theorem dX4_unitsBefore_26 : decode cX4_unitsBefore 26 = .ok (.invokevirtual 85, 3) := by decide +kernel
theorem dX4_unitsBefore_29 : decode cX4_unitsBefore 29 = .ok (.invokestatic 111, 3) := by decide +kernel
theorem dX4_unitsBefore_32 : decode cX4_unitsBefore 32 = .ok (.aload_n 0, 1) := by decide +kernel
theorem dX4_unitsBefore_33 : decode cX4_unitsBefore 33 = .ok (.iload_n 1, 1) := by decide +kernel
theorem dX4_unitsBefore_34 : decode cX4_unitsBefore 34 = .ok (.iload 4, 2) := by decide +kernel
theorem dX4_unitsBefore_36 : decode cX4_unitsBefore 36 = .ok (.invokevirtual 108, 3) := by decide +kernel
theorem dX4_unitsBefore_39 : decode cX4_unitsBefore 39 = .ok (.iadd, 1) := by decide +kernel
theorem dX4_unitsBefore_40 : decode cX4_unitsBefore 40 = .ok (.iadd, 1) := by decide +kernel
theorem dX4_unitsBefore_41 : decode cX4_unitsBefore 41 = .ok (.istore_n 3, 1) := by decide +kernel
theorem dX4_unitsBefore_42 : decode cX4_unitsBefore 42 = .ok (.iinc 4 1, 3) := by decide +kernel
theorem dX4_unitsBefore_45 : decode cX4_unitsBefore 45 = .ok (.goto (-40), 3) := by decide +kernel
theorem dX4_unitsBefore_48 : decode cX4_unitsBefore 48 = .ok (.iload_n 3, 1) := by decide +kernel
theorem dX4_unitsBefore_49 : decode cX4_unitsBefore 49 = .ok (.ireturn, 1) := by decide +kernel
set_option maxRecDepth 20000 in
theorem ggX4_unitsOf_X1_lengthOf : GoodIn wsX4_unitsOf wsX1_lengthOf := goodIn_r _ [6, 7, 57, 58, 59] (by decide +kernel) (by decide +kernel)
set_option maxRecDepth 20000 in
theorem gX4_unitsOf_X1_lengthOf : GoodIn wsX4_unitsOf (wsV RX4 82 RX1 yX1_lengthOf wsX1_lengthOf) := goodIn_app (goodIn_of _ (by decide +kernel)) ggX4_unitsOf_X1_lengthOf
set_option maxRecDepth 20000 in
theorem ggX4_unitsOf_X4_unitsBefore : GoodIn wsX4_unitsOf wsX4_unitsBefore := goodIn_r _ [12, 1, 13, 14, 15, 5, 16, 17, 18, 19, 20, 21, 22, 23, 24, 11, 25, 26, 27, 28, 29, 30, 2, 3, 4, 6, 7, 31, 32, 33, 34, 35, 36, 37, 38, 39, 40, 41, 42, 43, 44, 45, 46, 47, 48, 49, 50, 51, 52, 53, 54, 55, 56, 57, 58, 59, 60, 61, 62, 63] (by decide +kernel) (by decide +kernel)
set_option maxRecDepth 20000 in
theorem gX4_unitsOf_X4_unitsBefore : GoodIn wsX4_unitsOf (wsV RX4 113 RX4 yX4_unitsBefore wsX4_unitsBefore) := goodIn_app (goodIn_of _ (by decide +kernel)) ggX4_unitsOf_X4_unitsBefore
theorem dX4_unitsOf_0 : decode cX4_unitsOf 0 = .ok (.aload_n 0, 1) := by decide +kernel
theorem dX4_unitsOf_1 : decode cX4_unitsOf 1 = .ok (.iload_n 1, 1) := by decide +kernel
theorem dX4_unitsOf_2 : decode cX4_unitsOf 2 = .ok (.aload_n 0, 1) := by decide +kernel
theorem dX4_unitsOf_3 : decode cX4_unitsOf 3 = .ok (.getfield 12, 3) := by decide +kernel
theorem dX4_unitsOf_6 : decode cX4_unitsOf 6 = .ok (.iload_n 1, 1) := by decide +kernel
theorem dX4_unitsOf_7 : decode cX4_unitsOf 7 = .ok (.invokevirtual 82, 3) := by decide +kernel
theorem dX4_unitsOf_10 : decode cX4_unitsOf 10 = .ok (.invokevirtual 113, 3) := by decide +kernel
theorem dX4_unitsOf_13 : decode cX4_unitsOf 13 = .ok (.ireturn, 1) := by decide +kernel
set_option maxRecDepth 20000 in
theorem ggX4_inkOf_X1_lengthOf : GoodIn wsX4_inkOf wsX1_lengthOf := goodIn_r _ [6, 7, 27, 28, 29] (by decide +kernel) (by decide +kernel)
set_option maxRecDepth 20000 in
theorem gX4_inkOf_X1_lengthOf : GoodIn wsX4_inkOf (wsV RX4 82 RX1 yX1_lengthOf wsX1_lengthOf) := goodIn_app (goodIn_of _ (by decide +kernel)) ggX4_inkOf_X1_lengthOf
set_option maxRecDepth 20000 in
theorem ggX4_inkOf_X1_codeAt : GoodIn wsX4_inkOf wsX1_codeAt := goodIn_r _ [11, 12, 27, 28, 29] (by decide +kernel) (by decide +kernel)
set_option maxRecDepth 20000 in
theorem gX4_inkOf_X1_codeAt : GoodIn wsX4_inkOf (wsV RX4 85 RX1 yX1_codeAt wsX1_codeAt) := goodIn_app (goodIn_of _ (by decide +kernel)) ggX4_inkOf_X1_codeAt
set_option maxRecDepth 20000 in
theorem ggX4_inkOf_X3_ink : GoodIn wsX4_inkOf wsX3_ink := goodIn_r _ [16] (by decide +kernel) (by decide +kernel)
set_option maxRecDepth 20000 in
theorem gX4_inkOf_X3_ink : GoodIn wsX4_inkOf (va_wsS RX4 116 yX3_ink wsX3_ink) := goodIn_app (goodIn_of _ (by decide +kernel)) ggX4_inkOf_X3_ink
theorem dX4_inkOf_0 : decode cX4_inkOf 0 = .ok (.iconst 0, 1) := by decide +kernel
theorem dX4_inkOf_1 : decode cX4_inkOf 1 = .ok (.istore_n 2, 1) := by decide +kernel
theorem dX4_inkOf_2 : decode cX4_inkOf 2 = .ok (.iconst 0, 1) := by decide +kernel
theorem dX4_inkOf_3 : decode cX4_inkOf 3 = .ok (.istore_n 3, 1) := by decide +kernel
theorem dX4_inkOf_4 : decode cX4_inkOf 4 = .ok (.iload_n 3, 1) := by decide +kernel
theorem dX4_inkOf_5 : decode cX4_inkOf 5 = .ok (.aload_n 0, 1) := by decide +kernel
theorem dX4_inkOf_6 : decode cX4_inkOf 6 = .ok (.getfield 12, 3) := by decide +kernel
theorem dX4_inkOf_9 : decode cX4_inkOf 9 = .ok (.iload_n 1, 1) := by decide +kernel
theorem dX4_inkOf_10 : decode cX4_inkOf 10 = .ok (.invokevirtual 82, 3) := by decide +kernel
theorem dX4_inkOf_13 : decode cX4_inkOf 13 = .ok (.if_icmp .ge 24, 3) := by decide +kernel
theorem dX4_inkOf_16 : decode cX4_inkOf 16 = .ok (.iload_n 2, 1) := by decide +kernel
theorem dX4_inkOf_17 : decode cX4_inkOf 17 = .ok (.aload_n 0, 1) := by decide +kernel
theorem dX4_inkOf_18 : decode cX4_inkOf 18 = .ok (.getfield 12, 3) := by decide +kernel
theorem dX4_inkOf_21 : decode cX4_inkOf 21 = .ok (.iload_n 1, 1) := by decide +kernel
theorem dX4_inkOf_22 : decode cX4_inkOf 22 = .ok (.iload_n 3, 1) := by decide +kernel
theorem dX4_inkOf_23 : decode cX4_inkOf 23 = .ok (.invokevirtual 85, 3) := by decide +kernel
theorem dX4_inkOf_26 : decode cX4_inkOf 26 = .ok (.invokestatic 116, 3) := by decide +kernel
theorem dX4_inkOf_29 : decode cX4_inkOf 29 = .ok (.iadd, 1) := by decide +kernel
theorem dX4_inkOf_30 : decode cX4_inkOf 30 = .ok (.istore_n 2, 1) := by decide +kernel
theorem dX4_inkOf_31 : decode cX4_inkOf 31 = .ok (.iinc 3 1, 3) := by decide +kernel
theorem dX4_inkOf_34 : decode cX4_inkOf 34 = .ok (.goto (-30), 3) := by decide +kernel
theorem dX4_inkOf_37 : decode cX4_inkOf 37 = .ok (.iload_n 2, 1) := by decide +kernel
theorem dX4_inkOf_38 : decode cX4_inkOf 38 = .ok (.ireturn, 1) := by decide +kernel
set_option maxRecDepth 20000 in
theorem ggX4_mostUnits_X4_unitsOf : GoodIn wsX4_mostUnits wsX4_unitsOf := goodIn_r _ [10, 1, 11, 12, 13, 14, 15, 16, 17, 18, 19, 9, 20, 21, 22, 23, 24, 25, 26, 27, 28, 29, 30, 31, 32, 33, 34, 2, 3, 4, 5, 35, 36, 37, 38, 39, 40, 41, 42, 43, 44, 45, 46, 47, 48, 49, 50, 51, 52, 53, 54, 55, 56, 57, 58, 59, 60, 61, 62, 63, 64, 65, 66, 67] (by decide +kernel) (by decide +kernel)
set_option maxRecDepth 20000 in
theorem gX4_mostUnits_X4_unitsOf : GoodIn wsX4_mostUnits (wsV RX4 119 RX4 yX4_unitsOf wsX4_unitsOf) := goodIn_app (goodIn_of _ (by decide +kernel)) ggX4_mostUnits_X4_unitsOf
theorem dX4_mostUnits_0 : decode cX4_mostUnits 0 = .ok (.iconst 0, 1) := by decide +kernel
theorem dX4_mostUnits_1 : decode cX4_mostUnits 1 = .ok (.istore_n 2, 1) := by decide +kernel
theorem dX4_mostUnits_2 : decode cX4_mostUnits 2 = .ok (.iconst 0, 1) := by decide +kernel
theorem dX4_mostUnits_3 : decode cX4_mostUnits 3 = .ok (.istore_n 3, 1) := by decide +kernel
theorem dX4_mostUnits_4 : decode cX4_mostUnits 4 = .ok (.iload_n 3, 1) := by decide +kernel
theorem dX4_mostUnits_5 : decode cX4_mostUnits 5 = .ok (.aload_n 0, 1) := by decide +kernel
theorem dX4_mostUnits_6 : decode cX4_mostUnits 6 = .ok (.getfield 12, 3) := by decide +kernel
theorem dX4_mostUnits_9 : decode cX4_mostUnits 9 = .ok (.getfield 67, 3) := by decide +kernel
theorem dX4_mostUnits_12 : decode cX4_mostUnits 12 = .ok (.if_icmp .ge 24, 3) := by decide +kernel
theorem dX4_mostUnits_15 : decode cX4_mostUnits 15 = .ok (.iload_n 3, 1) := by decide +kernel
theorem dX4_mostUnits_16 : decode cX4_mostUnits 16 = .ok (.iload_n 1, 1) := by decide +kernel
theorem dX4_mostUnits_17 : decode cX4_mostUnits 17 = .ok (.if_icmp .eq 13, 3) := by decide +kernel
theorem dX4_mostUnits_20 : decode cX4_mostUnits 20 = .ok (.iload_n 2, 1) := by decide +kernel
theorem dX4_mostUnits_21 : decode cX4_mostUnits 21 = .ok (.aload_n 0, 1) := by decide +kernel
theorem dX4_mostUnits_22 : decode cX4_mostUnits 22 = .ok (.iload_n 3, 1) := by decide +kernel
theorem dX4_mostUnits_23 : decode cX4_mostUnits 23 = .ok (.invokevirtual 119, 3) := by decide +kernel
theorem dX4_mostUnits_26 : decode cX4_mostUnits 26 = .ok (.invokestatic 102, 3) := by decide +kernel
theorem dX4_mostUnits_29 : decode cX4_mostUnits 29 = .ok (.istore_n 2, 1) := by decide +kernel
theorem dX4_mostUnits_30 : decode cX4_mostUnits 30 = .ok (.iinc 3 1, 3) := by decide +kernel
theorem dX4_mostUnits_33 : decode cX4_mostUnits 33 = .ok (.goto (-29), 3) := by decide +kernel
theorem dX4_mostUnits_36 : decode cX4_mostUnits 36 = .ok (.iload_n 2, 1) := by decide +kernel
theorem dX4_mostUnits_37 : decode cX4_mostUnits 37 = .ok (.ireturn, 1) := by decide +kernel
set_option maxRecDepth 20000 in
theorem ggX4_rowOf_X4_quotient : GoodIn wsX4_rowOf wsX4_quotient := goodIn_r _ [5, 6, 7, 8, 9] (by decide +kernel) (by decide +kernel)
set_option maxRecDepth 20000 in
theorem gX4_rowOf_X4_quotient : GoodIn wsX4_rowOf (va_wsS RX4 122 yX4_quotient wsX4_quotient) := goodIn_app (goodIn_of _ (by decide +kernel)) ggX4_rowOf_X4_quotient
theorem dX4_rowOf_0 : decode cX4_rowOf 0 = .ok (.iload_n 1, 1) := by decide +kernel
theorem dX4_rowOf_1 : decode cX4_rowOf 1 = .ok (.aload_n 0, 1) := by decide +kernel
theorem dX4_rowOf_2 : decode cX4_rowOf 2 = .ok (.getfield 35, 3) := by decide +kernel
theorem dX4_rowOf_5 : decode cX4_rowOf 5 = .ok (.invokestatic 122, 3) := by decide +kernel
theorem dX4_rowOf_8 : decode cX4_rowOf 8 = .ok (.ireturn, 1) := by decide +kernel
theorem dX4_columnOf_0 : decode cX4_columnOf 0 = .ok (.aload_n 0, 1) := by decide +kernel
theorem dX4_columnOf_1 : decode cX4_columnOf 1 = .ok (.getfield 35, 3) := by decide +kernel
theorem dX4_columnOf_4 : decode cX4_columnOf 4 = .ok (.ifCond .le 12, 3) := by decide +kernel
theorem dX4_columnOf_7 : decode cX4_columnOf 7 = .ok (.iload_n 1, 1) := by decide +kernel
theorem dX4_columnOf_8 : decode cX4_columnOf 8 = .ok (.aload_n 0, 1) := by decide +kernel
theorem dX4_columnOf_9 : decode cX4_columnOf 9 = .ok (.getfield 35, 3) := by decide +kernel
theorem dX4_columnOf_12 : decode cX4_columnOf 12 = .ok (.irem, 1) := by decide +kernel
theorem dX4_columnOf_13 : decode cX4_columnOf 13 = .ok (.goto 4, 3) := by decide +kernel
theorem dX4_columnOf_16 : decode cX4_columnOf 16 = .ok (.iconst 0, 1) := by decide +kernel
theorem dX4_columnOf_17 : decode cX4_columnOf 17 = .ok (.ireturn, 1) := by decide +kernel
set_option maxRecDepth 20000 in
theorem ggX4_rowsFor_X4_quotient : GoodIn wsX4_rowsFor wsX4_quotient := goodIn_r _ [5, 6, 7, 8, 9] (by decide +kernel) (by decide +kernel)
set_option maxRecDepth 20000 in
theorem gX4_rowsFor_X4_quotient : GoodIn wsX4_rowsFor (va_wsS RX4 122 yX4_quotient wsX4_quotient) := goodIn_app (goodIn_of _ (by decide +kernel)) ggX4_rowsFor_X4_quotient
theorem dX4_rowsFor_0 : decode cX4_rowsFor 0 = .ok (.iload_n 1, 1) := by decide +kernel
theorem dX4_rowsFor_1 : decode cX4_rowsFor 1 = .ok (.aload_n 0, 1) := by decide +kernel
theorem dX4_rowsFor_2 : decode cX4_rowsFor 2 = .ok (.getfield 35, 3) := by decide +kernel
theorem dX4_rowsFor_5 : decode cX4_rowsFor 5 = .ok (.iadd, 1) := by decide +kernel
theorem dX4_rowsFor_6 : decode cX4_rowsFor 6 = .ok (.iconst 1, 1) := by decide +kernel
theorem dX4_rowsFor_7 : decode cX4_rowsFor 7 = .ok (.isub, 1) := by decide +kernel
theorem dX4_rowsFor_8 : decode cX4_rowsFor 8 = .ok (.aload_n 0, 1) := by decide +kernel
theorem dX4_rowsFor_9 : decode cX4_rowsFor 9 = .ok (.getfield 35, 3) := by decide +kernel
theorem dX4_rowsFor_12 : decode cX4_rowsFor 12 = .ok (.invokestatic 122, 3) := by decide +kernel
theorem dX4_rowsFor_15 : decode cX4_rowsFor 15 = .ok (.ireturn, 1) := by decide +kernel
set_option maxRecDepth 20000 in
theorem ggX4_rowBegin_X4_rowOf : GoodIn wsX4_rowBegin wsX4_rowOf := goodIn_r _ [6, 7, 8, 9, 5, 10, 11, 12, 13, 14, 15, 16, 17, 18, 19, 20, 21, 22, 23, 24] (by decide +kernel) (by decide +kernel)
set_option maxRecDepth 20000 in
theorem gX4_rowBegin_X4_rowOf : GoodIn wsX4_rowBegin (wsV RX4 125 RX4 yX4_rowOf wsX4_rowOf) := goodIn_app (goodIn_of _ (by decide +kernel)) ggX4_rowBegin_X4_rowOf
theorem dX4_rowBegin_0 : decode cX4_rowBegin 0 = .ok (.aload_n 0, 1) := by decide +kernel
theorem dX4_rowBegin_1 : decode cX4_rowBegin 1 = .ok (.getfield 32, 3) := by decide +kernel
theorem dX4_rowBegin_4 : decode cX4_rowBegin 4 = .ok (.bipush 12, 2) := by decide +kernel
theorem dX4_rowBegin_6 : decode cX4_rowBegin 6 = .ok (.iload_n 2, 1) := by decide +kernel
theorem dX4_rowBegin_7 : decode cX4_rowBegin 7 = .ok (.imul, 1) := by decide +kernel
theorem dX4_rowBegin_8 : decode cX4_rowBegin 8 = .ok (.aload_n 0, 1) := by decide +kernel
theorem dX4_rowBegin_9 : decode cX4_rowBegin 9 = .ok (.iload_n 1, 1) := by decide +kernel
theorem dX4_rowBegin_10 : decode cX4_rowBegin 10 = .ok (.invokevirtual 125, 3) := by decide +kernel
theorem dX4_rowBegin_13 : decode cX4_rowBegin 13 = .ok (.imul, 1) := by decide +kernel
theorem dX4_rowBegin_14 : decode cX4_rowBegin 14 = .ok (.iadd, 1) := by decide +kernel
theorem dX4_rowBegin_15 : decode cX4_rowBegin 15 = .ok (.ireturn, 1) := by decide +kernel
set_option maxRecDepth 20000 in
theorem ggX4_columnWidth_X4_quotient : GoodIn wsX4_columnWidth wsX4_quotient := goodIn_r _ [6, 7, 8, 9, 10] (by decide +kernel) (by decide +kernel)
set_option maxRecDepth 20000 in
theorem gX4_columnWidth_X4_quotient : GoodIn wsX4_columnWidth (va_wsS RX4 122 yX4_quotient wsX4_quotient) := goodIn_app (goodIn_of _ (by decide +kernel)) ggX4_columnWidth_X4_quotient
theorem dX4_columnWidth_0 : decode cX4_columnWidth 0 = .ok (.iload_n 1, 1) := by decide +kernel
theorem dX4_columnWidth_1 : decode cX4_columnWidth 1 = .ok (.iconst 2, 1) := by decide +kernel
theorem dX4_columnWidth_2 : decode cX4_columnWidth 2 = .ok (.aload_n 0, 1) := by decide +kernel
theorem dX4_columnWidth_3 : decode cX4_columnWidth 3 = .ok (.getfield 32, 3) := by decide +kernel
theorem dX4_columnWidth_6 : decode cX4_columnWidth 6 = .ok (.imul, 1) := by decide +kernel
theorem dX4_columnWidth_7 : decode cX4_columnWidth 7 = .ok (.isub, 1) := by decide +kernel
theorem dX4_columnWidth_8 : decode cX4_columnWidth 8 = .ok (.aload_n 0, 1) := by decide +kernel
theorem dX4_columnWidth_9 : decode cX4_columnWidth 9 = .ok (.getfield 35, 3) := by decide +kernel
theorem dX4_columnWidth_12 : decode cX4_columnWidth 12 = .ok (.invokestatic 122, 3) := by decide +kernel
theorem dX4_columnWidth_15 : decode cX4_columnWidth 15 = .ok (.ireturn, 1) := by decide +kernel
set_option maxRecDepth 20000 in
theorem ggX4_columnBegin_X4_columnOf : GoodIn wsX4_columnBegin wsX4_columnOf := goodIn_r _ [7, 8, 20, 21, 22, 23, 24, 25, 26, 27, 28, 29] (by decide +kernel) (by decide +kernel)
set_option maxRecDepth 20000 in
theorem gX4_columnBegin_X4_columnOf : GoodIn wsX4_columnBegin (wsV RX4 128 RX4 yX4_columnOf wsX4_columnOf) := goodIn_app (goodIn_of _ (by decide +kernel)) ggX4_columnBegin_X4_columnOf
set_option maxRecDepth 20000 in
theorem ggX4_columnBegin_X4_columnWidth : GoodIn wsX4_columnBegin wsX4_columnWidth := goodIn_r _ [12, 1, 8, 13, 14, 6, 15, 16, 17, 18, 19, 20, 21, 22, 23, 24, 25, 26, 27, 28, 29] (by decide +kernel) (by decide +kernel)
set_option maxRecDepth 20000 in
theorem gX4_columnBegin_X4_columnWidth : GoodIn wsX4_columnBegin (wsV RX4 131 RX4 yX4_columnWidth wsX4_columnWidth) := goodIn_app (goodIn_of _ (by decide +kernel)) ggX4_columnBegin_X4_columnWidth
theorem dX4_columnBegin_0 : decode cX4_columnBegin 0 = .ok (.aload_n 0, 1) := by decide +kernel
theorem dX4_columnBegin_1 : decode cX4_columnBegin 1 = .ok (.getfield 32, 3) := by decide +kernel
theorem dX4_columnBegin_4 : decode cX4_columnBegin 4 = .ok (.aload_n 0, 1) := by decide +kernel
theorem dX4_columnBegin_5 : decode cX4_columnBegin 5 = .ok (.iload_n 1, 1) := by decide +kernel
theorem dX4_columnBegin_6 : decode cX4_columnBegin 6 = .ok (.invokevirtual 128, 3) := by decide +kernel
theorem dX4_columnBegin_9 : decode cX4_columnBegin 9 = .ok (.aload_n 0, 1) := by decide +kernel
theorem dX4_columnBegin_10 : decode cX4_columnBegin 10 = .ok (.aload_n 0, 1) := by decide +kernel
theorem dX4_columnBegin_11 : decode cX4_columnBegin 11 = .ok (.getfield 25, 3) := by decide +kernel
theorem dX4_columnBegin_14 : decode cX4_columnBegin 14 = .ok (.invokevirtual 131, 3) := by decide +kernel
theorem dX4_columnBegin_17 : decode cX4_columnBegin 17 = .ok (.imul, 1) := by decide +kernel
theorem dX4_columnBegin_18 : decode cX4_columnBegin 18 = .ok (.iadd, 1) := by decide +kernel
theorem dX4_columnBegin_19 : decode cX4_columnBegin 19 = .ok (.ireturn, 1) := by decide +kernel
set_option maxRecDepth 20000 in
theorem ggX4_sizeNow_X4_hasEngraved : GoodIn wsX4_sizeNow wsX4_hasEngraved := goodIn_r _ [9, 10, 84, 85, 86, 87, 88, 89, 90, 91, 92, 93] (by decide +kernel) (by decide +kernel)
set_option maxRecDepth 20000 in
theorem gX4_sizeNow_X4_hasEngraved : GoodIn wsX4_sizeNow (wsV RX4 134 RX4 yX4_hasEngraved wsX4_hasEngraved) := goodIn_app (goodIn_of _ (by decide +kernel)) ggX4_sizeNow_X4_hasEngraved
set_option maxRecDepth 20000 in
theorem ggX4_sizeNow_X4_mostUnits : GoodIn wsX4_sizeNow wsX4_mostUnits := goodIn_r _ [14, 4, 15, 16, 17, 18, 19, 20, 21, 8, 22, 23, 24, 25, 26, 27, 28, 29, 30, 31, 32, 33, 34, 35, 36, 37, 38, 39, 40, 41, 42, 43, 44, 45, 46, 47, 48, 49, 50, 51, 52, 53, 54, 55, 56, 57, 58, 59, 60, 61, 62, 84, 85, 86, 87, 88, 89, 90, 91, 92, 93, 94, 95, 96, 97, 98, 99, 100] (by decide +kernel) (by decide +kernel)
set_option maxRecDepth 20000 in
theorem gX4_sizeNow_X4_mostUnits : GoodIn wsX4_sizeNow (wsV RX4 138 RX4 yX4_mostUnits wsX4_mostUnits) := goodIn_app (goodIn_of _ (by decide +kernel)) ggX4_sizeNow_X4_mostUnits
set_option maxRecDepth 20000 in
theorem ggX4_sizeNow_X4_greatestSize : GoodIn wsX4_sizeNow wsX4_greatestSize := goodIn_r _ [66, 67, 68, 69, 70, 8, 71, 72, 73, 74, 75, 76, 77, 78, 79, 80, 81, 82, 83, 84, 85, 86, 87, 88, 89, 90, 91, 92, 93] (by decide +kernel) (by decide +kernel)
set_option maxRecDepth 20000 in
theorem gX4_sizeNow_X4_greatestSize : GoodIn wsX4_sizeNow (wsV RX4 141 RX4 yX4_greatestSize wsX4_greatestSize) := goodIn_app (goodIn_of _ (by decide +kernel)) ggX4_sizeNow_X4_greatestSize
theorem dX4_sizeNow_0 : decode cX4_sizeNow 0 = .ok (.aload_n 0, 1) := by decide +kernel
theorem dX4_sizeNow_1 : decode cX4_sizeNow 1 = .ok (.invokevirtual 134, 3) := by decide +kernel
theorem dX4_sizeNow_4 : decode cX4_sizeNow 4 = .ok (.ifCond .eq 8, 3) := by decide +kernel
theorem dX4_sizeNow_7 : decode cX4_sizeNow 7 = .ok (.aload_n 0, 1) := by decide +kernel
theorem dX4_sizeNow_8 : decode cX4_sizeNow 8 = .ok (.getfield 41, 3) := by decide +kernel
theorem dX4_sizeNow_11 : decode cX4_sizeNow 11 = .ok (.ireturn, 1) := by decide +kernel
theorem dX4_sizeNow_12 : decode cX4_sizeNow 12 = .ok (.aload_n 0, 1) := by decide +kernel
theorem dX4_sizeNow_13 : decode cX4_sizeNow 13 = .ok (.aload_n 0, 1) := by decide +kernel
theorem dX4_sizeNow_14 : decode cX4_sizeNow 14 = .ok (.getfield 25, 3) := by decide +kernel
theorem dX4_sizeNow_17 : decode cX4_sizeNow 17 = .ok (.aload_n 0, 1) := by decide +kernel
theorem dX4_sizeNow_18 : decode cX4_sizeNow 18 = .ok (.getfield 29, 3) := by decide +kernel
theorem dX4_sizeNow_21 : decode cX4_sizeNow 21 = .ok (.aload_n 0, 1) := by decide +kernel
theorem dX4_sizeNow_22 : decode cX4_sizeNow 22 = .ok (.getfield 12, 3) := by decide +kernel
theorem dX4_sizeNow_25 : decode cX4_sizeNow 25 = .ok (.getfield 67, 3) := by decide +kernel
theorem dX4_sizeNow_28 : decode cX4_sizeNow 28 = .ok (.aload_n 0, 1) := by decide +kernel
theorem dX4_sizeNow_29 : decode cX4_sizeNow 29 = .ok (.iconst (-1), 1) := by decide +kernel
theorem dX4_sizeNow_30 : decode cX4_sizeNow 30 = .ok (.invokevirtual 138, 3) := by decide +kernel
theorem dX4_sizeNow_33 : decode cX4_sizeNow 33 = .ok (.invokevirtual 141, 3) := by decide +kernel
theorem dX4_sizeNow_36 : decode cX4_sizeNow 36 = .ok (.ireturn, 1) := by decide +kernel
set_option maxRecDepth 20000 in
theorem ggX4_greatestSize_X4_rowsFor : GoodIn wsX4_greatestSize wsX4_rowsFor := goodIn_r _ [6, 7, 8, 9, 5, 10, 11, 12, 13, 14, 19, 20, 21, 22, 23, 24, 25, 26, 27, 28] (by decide +kernel) (by decide +kernel)
set_option maxRecDepth 20000 in
theorem gX4_greatestSize_X4_rowsFor : GoodIn wsX4_greatestSize (wsV RX4 145 RX4 yX4_rowsFor wsX4_rowsFor) := goodIn_app (goodIn_of _ (by decide +kernel)) ggX4_greatestSize_X4_rowsFor
set_option maxRecDepth 20000 in
theorem ggX4_greatestSize_X4_columnWidth : GoodIn wsX4_greatestSize wsX4_columnWidth := goodIn_r _ [18, 1, 7, 8, 9, 5, 10, 11, 12, 13, 14, 19, 20, 21, 22, 23, 24, 25, 26, 27, 28] (by decide +kernel) (by decide +kernel)
set_option maxRecDepth 20000 in
theorem gX4_greatestSize_X4_columnWidth : GoodIn wsX4_greatestSize (wsV RX4 131 RX4 yX4_columnWidth wsX4_columnWidth) := goodIn_app (goodIn_of _ (by decide +kernel)) ggX4_greatestSize_X4_columnWidth
theorem dX4_greatestSize_0 : decode cX4_greatestSize 0 = .ok (.iload_n 3, 1) := by decide +kernel
theorem dX4_greatestSize_1 : decode cX4_greatestSize 1 = .ok (.ifCond .ne 6, 3) := by decide +kernel
theorem dX4_greatestSize_4 : decode cX4_greatestSize 4 = .ok (.bipush 40, 2) := by decide +kernel
theorem dX4_greatestSize_6 : decode cX4_greatestSize 6 = .ok (.ireturn, 1) := by decide +kernel
theorem dX4_greatestSize_7 : decode cX4_greatestSize 7 = .ok (.bipush 12, 2) := by decide +kernel
theorem dX4_greatestSize_9 : decode cX4_greatestSize 9 = .ok (.aload_n 0, 1) := by decide +kernel
theorem dX4_greatestSize_10 : decode cX4_greatestSize 10 = .ok (.iload_n 3, 1) := by decide +kernel
theorem dX4_greatestSize_11 : decode cX4_greatestSize 11 = .ok (.invokevirtual 145, 3) := by decide +kernel
theorem dX4_greatestSize_14 : decode cX4_greatestSize 14 = .ok (.imul, 1) := by decide +kernel
theorem dX4_greatestSize_15 : decode cX4_greatestSize 15 = .ok (.istore 5, 2) := by decide +kernel
theorem dX4_greatestSize_17 : decode cX4_greatestSize 17 = .ok (.bipush 40, 2) := by decide +kernel
theorem dX4_greatestSize_19 : decode cX4_greatestSize 19 = .ok (.istore 6, 2) := by decide +kernel
theorem dX4_greatestSize_21 : decode cX4_greatestSize 21 = .ok (.iload 6, 2) := by decide +kernel
theorem dX4_greatestSize_23 : decode cX4_greatestSize 23 = .ok (.iconst 1, 1) := by decide +kernel
theorem dX4_greatestSize_24 : decode cX4_greatestSize 24 = .ok (.if_icmp .lt 41, 3) := by decide +kernel
theorem dX4_greatestSize_27 : decode cX4_greatestSize 27 = .ok (.iload 4, 2) := by decide +kernel
theorem dX4_greatestSize_29 : decode cX4_greatestSize 29 = .ok (.iload 6, 2) := by decide +kernel
theorem dX4_greatestSize_31 : decode cX4_greatestSize 31 = .ok (.imul, 1) := by decide +kernel
theorem dX4_greatestSize_32 : decode cX4_greatestSize 32 = .ok (.aload_n 0, 1) := by decide +kernel
theorem dX4_greatestSize_33 : decode cX4_greatestSize 33 = .ok (.iload_n 1, 1) := by decide +kernel
theorem dX4_greatestSize_34 : decode cX4_greatestSize 34 = .ok (.invokevirtual 131, 3) := by decide +kernel
theorem dX4_greatestSize_37 : decode cX4_greatestSize 37 = .ok (.if_icmp .gt 22, 3) := by decide +kernel
theorem dX4_greatestSize_40 : decode cX4_greatestSize 40 = .ok (.iload 5, 2) := by decide +kernel
theorem dX4_greatestSize_42 : decode cX4_greatestSize 42 = .ok (.iload 6, 2) := by decide +kernel
theorem dX4_greatestSize_44 : decode cX4_greatestSize 44 = .ok (.imul, 1) := by decide +kernel
theorem dX4_greatestSize_45 : decode cX4_greatestSize 45 = .ok (.iload_n 2, 1) := by decide +kernel
theorem dX4_greatestSize_46 : decode cX4_greatestSize 46 = .ok (.iconst 2, 1) := by decide +kernel
theorem dX4_greatestSize_47 : decode cX4_greatestSize 47 = .ok (.aload_n 0, 1) := by decide +kernel
theorem dX4_greatestSize_48 : decode cX4_greatestSize 48 = .ok (.getfield 32, 3) := by decide +kernel
theorem dX4_greatestSize_51 : decode cX4_greatestSize 51 = .ok (.imul, 1) := by decide +kernel
theorem dX4_greatestSize_52 : decode cX4_greatestSize 52 = .ok (.isub, 1) := by decide +kernel
theorem dX4_greatestSize_53 : decode cX4_greatestSize 53 = .ok (.if_icmp .gt 6, 3) := by decide +kernel
theorem dX4_greatestSize_56 : decode cX4_greatestSize 56 = .ok (.iload 6, 2) := by decide +kernel
theorem dX4_greatestSize_58 : decode cX4_greatestSize 58 = .ok (.ireturn, 1) := by decide +kernel
theorem dX4_greatestSize_59 : decode cX4_greatestSize 59 = .ok (.iinc 6 (-1), 3) := by decide +kernel
theorem dX4_greatestSize_62 : decode cX4_greatestSize 62 = .ok (.goto (-41), 3) := by decide +kernel
theorem dX4_greatestSize_65 : decode cX4_greatestSize 65 = .ok (.iconst 0, 1) := by decide +kernel
theorem dX4_greatestSize_66 : decode cX4_greatestSize 66 = .ok (.ireturn, 1) := by decide +kernel
set_option maxRecDepth 20000 in
theorem ggX4_fits_X4_unitsOf : GoodIn wsX4_fits wsX4_unitsOf := goodIn_r _ [8, 9, 10, 11, 12, 13, 14, 15, 16, 17, 18, 7, 19, 20, 21, 22, 23, 24, 25, 26, 27, 28, 29, 30, 31, 32, 33, 34, 35, 36, 37, 38, 39, 40, 41, 42, 43, 44, 45, 46, 47, 48, 49, 50, 51, 52, 53, 70, 71, 72, 73, 74, 75, 76, 77, 78, 79, 80, 81, 82, 83, 84, 85, 86] (by decide +kernel) (by decide +kernel)
set_option maxRecDepth 20000 in
theorem gX4_fits_X4_unitsOf : GoodIn wsX4_fits (wsV RX4 119 RX4 yX4_unitsOf wsX4_unitsOf) := goodIn_app (goodIn_of _ (by decide +kernel)) ggX4_fits_X4_unitsOf
set_option maxRecDepth 20000 in
theorem ggX4_fits_X4_columnWidth : GoodIn wsX4_fits wsX4_columnWidth := goodIn_r _ [57, 3, 58, 59, 60, 7, 61, 62, 63, 64, 65, 70, 71, 72, 73, 74, 75, 76, 77, 78, 79] (by decide +kernel) (by decide +kernel)
set_option maxRecDepth 20000 in
theorem gX4_fits_X4_columnWidth : GoodIn wsX4_fits (wsV RX4 131 RX4 yX4_columnWidth wsX4_columnWidth) := goodIn_app (goodIn_of _ (by decide +kernel)) ggX4_fits_X4_columnWidth
set_option maxRecDepth 20000 in
theorem ggX4_fits_X4_rowOf : GoodIn wsX4_fits wsX4_rowOf := goodIn_r _ [69, 58, 59, 60, 7, 61, 62, 63, 64, 65, 70, 71, 72, 73, 74, 75, 76, 77, 78, 79] (by decide +kernel) (by decide +kernel)
set_option maxRecDepth 20000 in
theorem gX4_fits_X4_rowOf : GoodIn wsX4_fits (wsV RX4 125 RX4 yX4_rowOf wsX4_rowOf) := goodIn_app (goodIn_of _ (by decide +kernel)) ggX4_fits_X4_rowOf
theorem dX4_fits_0 : decode cX4_fits 0 = .ok (.iload_n 2, 1) := by decide +kernel
theorem dX4_fits_1 : decode cX4_fits 1 = .ok (.ifCond .le 51, 3) := by decide +kernel
theorem dX4_fits_4 : decode cX4_fits 4 = .ok (.aload_n 0, 1) := by decide +kernel
theorem dX4_fits_5 : decode cX4_fits 5 = .ok (.iload_n 1, 1) := by decide +kernel
theorem dX4_fits_6 : decode cX4_fits 6 = .ok (.invokevirtual 119, 3) := by decide +kernel
theorem dX4_fits_9 : decode cX4_fits 9 = .ok (.iload_n 2, 1) := by decide +kernel
theorem dX4_fits_10 : decode cX4_fits 10 = .ok (.imul, 1) := by decide +kernel
theorem dX4_fits_11 : decode cX4_fits 11 = .ok (.aload_n 0, 1) := by decide +kernel
theorem dX4_fits_12 : decode cX4_fits 12 = .ok (.aload_n 0, 1) := by decide +kernel
theorem dX4_fits_13 : decode cX4_fits 13 = .ok (.getfield 25, 3) := by decide +kernel
theorem dX4_fits_16 : decode cX4_fits 16 = .ok (.invokevirtual 131, 3) := by decide +kernel
theorem dX4_fits_19 : decode cX4_fits 19 = .ok (.if_icmp .gt 33, 3) := by decide +kernel
theorem dX4_fits_22 : decode cX4_fits 22 = .ok (.bipush 12, 2) := by decide +kernel
theorem dX4_fits_24 : decode cX4_fits 24 = .ok (.iload_n 2, 1) := by decide +kernel
theorem dX4_fits_25 : decode cX4_fits 25 = .ok (.imul, 1) := by decide +kernel
theorem dX4_fits_26 : decode cX4_fits 26 = .ok (.aload_n 0, 1) := by decide +kernel
theorem dX4_fits_27 : decode cX4_fits 27 = .ok (.iload_n 1, 1) := by decide +kernel
theorem dX4_fits_28 : decode cX4_fits 28 = .ok (.invokevirtual 125, 3) := by decide +kernel
theorem dX4_fits_31 : decode cX4_fits 31 = .ok (.iconst 1, 1) := by decide +kernel
theorem dX4_fits_32 : decode cX4_fits 32 = .ok (.iadd, 1) := by decide +kernel
theorem dX4_fits_33 : decode cX4_fits 33 = .ok (.imul, 1) := by decide +kernel
theorem dX4_fits_34 : decode cX4_fits 34 = .ok (.aload_n 0, 1) := by decide +kernel
theorem dX4_fits_35 : decode cX4_fits 35 = .ok (.getfield 29, 3) := by decide +kernel
theorem dX4_fits_38 : decode cX4_fits 38 = .ok (.iconst 2, 1) := by decide +kernel
theorem dX4_fits_39 : decode cX4_fits 39 = .ok (.aload_n 0, 1) := by decide +kernel
theorem dX4_fits_40 : decode cX4_fits 40 = .ok (.getfield 32, 3) := by decide +kernel
theorem dX4_fits_43 : decode cX4_fits 43 = .ok (.imul, 1) := by decide +kernel
theorem dX4_fits_44 : decode cX4_fits 44 = .ok (.isub, 1) := by decide +kernel
theorem dX4_fits_45 : decode cX4_fits 45 = .ok (.if_icmp .gt 7, 3) := by decide +kernel
theorem dX4_fits_48 : decode cX4_fits 48 = .ok (.iconst 1, 1) := by decide +kernel
theorem dX4_fits_49 : decode cX4_fits 49 = .ok (.goto 4, 3) := by decide +kernel
theorem dX4_fits_52 : decode cX4_fits 52 = .ok (.iconst 0, 1) := by decide +kernel
theorem dX4_fits_53 : decode cX4_fits 53 = .ok (.ireturn, 1) := by decide +kernel
set_option maxRecDepth 20000 in
theorem ggX4_beginOf_X4_columnWidth : GoodIn wsX4_beginOf wsX4_columnWidth := goodIn_r _ [13, 14, 15, 16, 17, 12, 18, 19, 20, 21, 22, 87, 88, 89, 90, 91, 92, 93, 94, 95, 96] (by decide +kernel) (by decide +kernel)
set_option maxRecDepth 20000 in
theorem gX4_beginOf_X4_columnWidth : GoodIn wsX4_beginOf (wsV RX4 131 RX4 yX4_columnWidth wsX4_columnWidth) := goodIn_app (goodIn_of _ (by decide +kernel)) ggX4_beginOf_X4_columnWidth
set_option maxRecDepth 20000 in
theorem ggX4_beginOf_X4_columnBegin : GoodIn wsX4_beginOf wsX4_columnBegin := goodIn_r _ [26, 14, 1, 27, 28, 29, 12, 30, 15, 9, 10, 11, 13, 16, 17, 18, 19, 20, 21, 22, 87, 88, 89, 90, 91, 92, 93, 94, 95, 96] (by decide +kernel) (by decide +kernel)
set_option maxRecDepth 20000 in
theorem gX4_beginOf_X4_columnBegin : GoodIn wsX4_beginOf (wsV RX4 148 RX4 yX4_columnBegin wsX4_columnBegin) := goodIn_app (goodIn_of _ (by decide +kernel)) ggX4_beginOf_X4_columnBegin
set_option maxRecDepth 20000 in
theorem ggX4_beginOf_X4_inkOf : GoodIn wsX4_beginOf wsX4_inkOf := goodIn_r _ [34, 35, 36, 37, 38, 39, 40, 41, 42, 43, 44, 45, 46, 47, 48, 49, 50, 87, 88, 89, 90, 91, 92, 93, 94, 95, 96, 97, 98, 99] (by decide +kernel) (by decide +kernel)
set_option maxRecDepth 20000 in
theorem gX4_beginOf_X4_inkOf : GoodIn wsX4_beginOf (wsV RX4 151 RX4 yX4_inkOf wsX4_inkOf) := goodIn_app (goodIn_of _ (by decide +kernel)) ggX4_beginOf_X4_inkOf
set_option maxRecDepth 20000 in
theorem ggX4_beginOf_X4_twiceInkMoment : GoodIn wsX4_beginOf wsX4_twiceInkMoment := goodIn_r _ [54, 35, 36, 37, 38, 39, 40, 41, 42, 43, 44, 45, 46, 55, 56, 49, 57, 47, 48, 50, 58, 59, 60, 12, 61, 62, 6, 7, 4, 8, 63, 64, 65, 66, 67, 68, 69, 70, 71, 72, 73, 74, 75, 76, 77, 78, 87, 88, 89, 90, 91, 92, 93, 94, 95, 96, 97, 98, 99, 100, 101, 102, 103] (by decide +kernel) (by decide +kernel)
set_option maxRecDepth 20000 in
theorem gX4_beginOf_X4_twiceInkMoment : GoodIn wsX4_beginOf (wsV RX4 154 RX4 yX4_twiceInkMoment wsX4_twiceInkMoment) := goodIn_app (goodIn_of _ (by decide +kernel)) ggX4_beginOf_X4_twiceInkMoment
set_option maxRecDepth 20000 in
theorem ggX4_beginOf_X4_quotient : GoodIn wsX4_beginOf wsX4_quotient := goodIn_r _ [18, 19, 20, 21, 22] (by decide +kernel) (by decide +kernel)
set_option maxRecDepth 20000 in
theorem gX4_beginOf_X4_quotient : GoodIn wsX4_beginOf (va_wsS RX4 122 yX4_quotient wsX4_quotient) := goodIn_app (goodIn_of _ (by decide +kernel)) ggX4_beginOf_X4_quotient
set_option maxRecDepth 20000 in
theorem ggX4_beginOf_X4_unitsOf : GoodIn wsX4_beginOf wsX4_unitsOf := goodIn_r _ [82, 35, 36, 37, 38, 39, 40, 41, 83, 84, 85, 12, 86, 42, 43, 44, 45, 46, 55, 56, 49, 57, 58, 59, 60, 61, 62, 6, 7, 4, 8, 63, 64, 65, 66, 67, 68, 69, 70, 71, 72, 73, 74, 75, 76, 77, 78, 87, 88, 89, 90, 91, 92, 93, 94, 95, 96, 97, 98, 99, 100, 101, 102, 103] (by decide +kernel) (by decide +kernel)
set_option maxRecDepth 20000 in
theorem gX4_beginOf_X4_unitsOf : GoodIn wsX4_beginOf (wsV RX4 119 RX4 yX4_unitsOf wsX4_unitsOf) := goodIn_app (goodIn_of _ (by decide +kernel)) ggX4_beginOf_X4_unitsOf
theorem dX4_beginOf_0 : decode cX4_beginOf 0 = .ok (.aload_n 0, 1) := by decide +kernel
theorem dX4_beginOf_1 : decode cX4_beginOf 1 = .ok (.aload_n 0, 1) := by decide +kernel
theorem dX4_beginOf_2 : decode cX4_beginOf 2 = .ok (.getfield 25, 3) := by decide +kernel
theorem dX4_beginOf_5 : decode cX4_beginOf 5 = .ok (.invokevirtual 131, 3) := by decide +kernel
theorem dX4_beginOf_8 : decode cX4_beginOf 8 = .ok (.istore_n 3, 1) := by decide +kernel
theorem dX4_beginOf_9 : decode cX4_beginOf 9 = .ok (.aload_n 0, 1) := by decide +kernel
theorem dX4_beginOf_10 : decode cX4_beginOf 10 = .ok (.iload_n 1, 1) := by decide +kernel
theorem dX4_beginOf_11 : decode cX4_beginOf 11 = .ok (.invokevirtual 148, 3) := by decide +kernel
theorem dX4_beginOf_14 : decode cX4_beginOf 14 = .ok (.istore 4, 2) := by decide +kernel
theorem dX4_beginOf_16 : decode cX4_beginOf 16 = .ok (.aload_n 0, 1) := by decide +kernel
theorem dX4_beginOf_17 : decode cX4_beginOf 17 = .ok (.iload_n 1, 1) := by decide +kernel
theorem dX4_beginOf_18 : decode cX4_beginOf 18 = .ok (.invokevirtual 151, 3) := by decide +kernel
theorem dX4_beginOf_21 : decode cX4_beginOf 21 = .ok (.istore 5, 2) := by decide +kernel
theorem dX4_beginOf_23 : decode cX4_beginOf 23 = .ok (.iconst 2, 1) := by decide +kernel
theorem dX4_beginOf_24 : decode cX4_beginOf 24 = .ok (.iload 5, 2) := by decide +kernel
theorem dX4_beginOf_26 : decode cX4_beginOf 26 = .ok (.imul, 1) := by decide +kernel
theorem dX4_beginOf_27 : decode cX4_beginOf 27 = .ok (.istore 6, 2) := by decide +kernel
theorem dX4_beginOf_29 : decode cX4_beginOf 29 = .ok (.iload 5, 2) := by decide +kernel
theorem dX4_beginOf_31 : decode cX4_beginOf 31 = .ok (.iconst 2, 1) := by decide +kernel
theorem dX4_beginOf_32 : decode cX4_beginOf 32 = .ok (.iload 4, 2) := by decide +kernel
theorem dX4_beginOf_34 : decode cX4_beginOf 34 = .ok (.imul, 1) := by decide +kernel
theorem dX4_beginOf_35 : decode cX4_beginOf 35 = .ok (.iload_n 3, 1) := by decide +kernel
theorem dX4_beginOf_36 : decode cX4_beginOf 36 = .ok (.iadd, 1) := by decide +kernel
theorem dX4_beginOf_37 : decode cX4_beginOf 37 = .ok (.imul, 1) := by decide +kernel
theorem dX4_beginOf_38 : decode cX4_beginOf 38 = .ok (.iload_n 2, 1) := by decide +kernel
theorem dX4_beginOf_39 : decode cX4_beginOf 39 = .ok (.aload_n 0, 1) := by decide +kernel
theorem dX4_beginOf_40 : decode cX4_beginOf 40 = .ok (.iload_n 1, 1) := by decide +kernel
theorem dX4_beginOf_41 : decode cX4_beginOf 41 = .ok (.invokevirtual 154, 3) := by decide +kernel
theorem dX4_beginOf_44 : decode cX4_beginOf 44 = .ok (.imul, 1) := by decide +kernel
theorem dX4_beginOf_45 : decode cX4_beginOf 45 = .ok (.isub, 1) := by decide +kernel
theorem dX4_beginOf_46 : decode cX4_beginOf 46 = .ok (.iload 6, 2) := by decide +kernel
theorem dX4_beginOf_48 : decode cX4_beginOf 48 = .ok (.invokestatic 122, 3) := by decide +kernel
theorem dX4_beginOf_51 : decode cX4_beginOf 51 = .ok (.istore 7, 2) := by decide +kernel
theorem dX4_beginOf_53 : decode cX4_beginOf 53 = .ok (.iload 4, 2) := by decide +kernel
theorem dX4_beginOf_55 : decode cX4_beginOf 55 = .ok (.iload_n 3, 1) := by decide +kernel
theorem dX4_beginOf_56 : decode cX4_beginOf 56 = .ok (.iadd, 1) := by decide +kernel
theorem dX4_beginOf_57 : decode cX4_beginOf 57 = .ok (.aload_n 0, 1) := by decide +kernel
theorem dX4_beginOf_58 : decode cX4_beginOf 58 = .ok (.iload_n 1, 1) := by decide +kernel
theorem dX4_beginOf_59 : decode cX4_beginOf 59 = .ok (.invokevirtual 119, 3) := by decide +kernel
theorem dX4_beginOf_62 : decode cX4_beginOf 62 = .ok (.iload_n 2, 1) := by decide +kernel
theorem dX4_beginOf_63 : decode cX4_beginOf 63 = .ok (.imul, 1) := by decide +kernel
theorem dX4_beginOf_64 : decode cX4_beginOf 64 = .ok (.isub, 1) := by decide +kernel
theorem dX4_beginOf_65 : decode cX4_beginOf 65 = .ok (.istore 8, 2) := by decide +kernel
theorem dX4_beginOf_67 : decode cX4_beginOf 67 = .ok (.iload 4, 2) := by decide +kernel
theorem dX4_beginOf_69 : decode cX4_beginOf 69 = .ok (.iload 7, 2) := by decide +kernel
theorem dX4_beginOf_71 : decode cX4_beginOf 71 = .ok (.iload 8, 2) := by decide +kernel
theorem dX4_beginOf_73 : decode cX4_beginOf 73 = .ok (.invokestatic 157, 3) := by decide +kernel
theorem dX4_beginOf_76 : decode cX4_beginOf 76 = .ok (.invokestatic 102, 3) := by decide +kernel
theorem dX4_beginOf_79 : decode cX4_beginOf 79 = .ok (.ireturn, 1) := by decide +kernel
set_option maxRecDepth 20000 in
theorem ggX4_twiceInkMoment_X1_lengthOf : GoodIn wsX4_twiceInkMoment wsX1_lengthOf := goodIn_r _ [6, 7, 56, 57, 58] (by decide +kernel) (by decide +kernel)
set_option maxRecDepth 20000 in
theorem gX4_twiceInkMoment_X1_lengthOf : GoodIn wsX4_twiceInkMoment (wsV RX4 82 RX1 yX1_lengthOf wsX1_lengthOf) := goodIn_app (goodIn_of _ (by decide +kernel)) ggX4_twiceInkMoment_X1_lengthOf
set_option maxRecDepth 20000 in
theorem ggX4_twiceInkMoment_X1_codeAt : GoodIn wsX4_twiceInkMoment wsX1_codeAt := goodIn_r _ [11, 12, 56, 57, 58] (by decide +kernel) (by decide +kernel)
set_option maxRecDepth 20000 in
theorem gX4_twiceInkMoment_X1_codeAt : GoodIn wsX4_twiceInkMoment (wsV RX4 85 RX1 yX1_codeAt wsX1_codeAt) := goodIn_app (goodIn_of _ (by decide +kernel)) ggX4_twiceInkMoment_X1_codeAt
set_option maxRecDepth 20000 in
theorem ggX4_twiceInkMoment_X3_width : GoodIn wsX4_twiceInkMoment wsX3_width := goodIn_r _ [16] (by decide +kernel) (by decide +kernel)
set_option maxRecDepth 20000 in
theorem gX4_twiceInkMoment_X3_width : GoodIn wsX4_twiceInkMoment (va_wsS RX4 111 yX3_width wsX3_width) := goodIn_app (goodIn_of _ (by decide +kernel)) ggX4_twiceInkMoment_X3_width
set_option maxRecDepth 20000 in
theorem ggX4_twiceInkMoment_X3_ink : GoodIn wsX4_twiceInkMoment wsX3_ink := goodIn_r _ [19] (by decide +kernel) (by decide +kernel)
set_option maxRecDepth 20000 in
theorem gX4_twiceInkMoment_X3_ink : GoodIn wsX4_twiceInkMoment (va_wsS RX4 116 yX3_ink wsX3_ink) := goodIn_app (goodIn_of _ (by decide +kernel)) ggX4_twiceInkMoment_X3_ink
set_option maxRecDepth 20000 in
theorem ggX4_twiceInkMoment_X4_spaceBehind : GoodIn wsX4_twiceInkMoment wsX4_spaceBehind := goodIn_r _ [24, 1, 25, 26, 27, 28, 29, 2, 3, 4, 5, 6, 7, 8, 9, 10, 11, 12, 30, 31, 32, 33, 34, 35, 36, 37, 38, 39, 40, 41, 42, 43, 44, 15, 45, 46, 47, 48, 49, 50, 51, 52, 53, 54, 55, 56, 57, 58, 59, 60, 61, 62] (by decide +kernel) (by decide +kernel)
set_option maxRecDepth 20000 in
theorem gX4_twiceInkMoment_X4_spaceBehind : GoodIn wsX4_twiceInkMoment (wsV RX4 108 RX4 yX4_spaceBehind wsX4_spaceBehind) := goodIn_app (goodIn_of _ (by decide +kernel)) ggX4_twiceInkMoment_X4_spaceBehind
theorem dX4_twiceInkMoment_0 : decode cX4_twiceInkMoment 0 = .ok (.iconst 0, 1) := by decide +kernel
theorem dX4_twiceInkMoment_1 : decode cX4_twiceInkMoment 1 = .ok (.istore_n 2, 1) := by decide +kernel
theorem dX4_twiceInkMoment_2 : decode cX4_twiceInkMoment 2 = .ok (.iconst 0, 1) := by decide +kernel
theorem dX4_twiceInkMoment_3 : decode cX4_twiceInkMoment 3 = .ok (.istore_n 3, 1) := by decide +kernel
theorem dX4_twiceInkMoment_4 : decode cX4_twiceInkMoment 4 = .ok (.iconst 0, 1) := by decide +kernel
theorem dX4_twiceInkMoment_5 : decode cX4_twiceInkMoment 5 = .ok (.istore 4, 2) := by decide +kernel
theorem dX4_twiceInkMoment_7 : decode cX4_twiceInkMoment 7 = .ok (.iload 4, 2) := by decide +kernel
theorem dX4_twiceInkMoment_9 : decode cX4_twiceInkMoment 9 = .ok (.aload_n 0, 1) := by decide +kernel
theorem dX4_twiceInkMoment_10 : decode cX4_twiceInkMoment 10 = .ok (.getfield 12, 3) := by decide +kernel
theorem dX4_twiceInkMoment_13 : decode cX4_twiceInkMoment 13 = .ok (.iload_n 1, 1) := by decide +kernel
theorem dX4_twiceInkMoment_14 : decode cX4_twiceInkMoment 14 = .ok (.invokevirtual 82, 3) := by decide +kernel
theorem dX4_twiceInkMoment_17 : decode cX4_twiceInkMoment 17 = .ok (.if_icmp .ge 56, 3) := by decide +kernel
theorem dX4_twiceInkMoment_20 : decode cX4_twiceInkMoment 20 = .ok (.aload_n 0, 1) := by decide +kernel
theorem dX4_twiceInkMoment_21 : decode cX4_twiceInkMoment 21 = .ok (.getfield 12, 3) := by decide +kernel
theorem dX4_twiceInkMoment_24 : decode cX4_twiceInkMoment 24 = .ok (.iload_n 1, 1) := by decide +kernel
theorem dX4_twiceInkMoment_25 : decode cX4_twiceInkMoment 25 = .ok (.iload 4, 2) := by decide +kernel
theorem dX4_twiceInkMoment_27 : decode cX4_twiceInkMoment 27 = .ok (.invokevirtual 85, 3) := by decide +kernel
theorem dX4_twiceInkMoment_30 : decode cX4_twiceInkMoment 30 = .ok (.istore 5, 2) := by decide +kernel
theorem dX4_twiceInkMoment_32 : decode cX4_twiceInkMoment 32 = .ok (.iload 5, 2) := by decide +kernel
theorem dX4_twiceInkMoment_34 : decode cX4_twiceInkMoment 34 = .ok (.invokestatic 111, 3) := by decide +kernel
theorem dX4_twiceInkMoment_37 : decode cX4_twiceInkMoment 37 = .ok (.istore 6, 2) := by decide +kernel
theorem dX4_twiceInkMoment_39 : decode cX4_twiceInkMoment 39 = .ok (.iload_n 2, 1) := by decide +kernel
theorem dX4_twiceInkMoment_40 : decode cX4_twiceInkMoment 40 = .ok (.iload 5, 2) := by decide +kernel
theorem dX4_twiceInkMoment_42 : decode cX4_twiceInkMoment 42 = .ok (.invokestatic 116, 3) := by decide +kernel
theorem dX4_twiceInkMoment_45 : decode cX4_twiceInkMoment 45 = .ok (.iconst 2, 1) := by decide +kernel
theorem dX4_twiceInkMoment_46 : decode cX4_twiceInkMoment 46 = .ok (.iload_n 3, 1) := by decide +kernel
theorem dX4_twiceInkMoment_47 : decode cX4_twiceInkMoment 47 = .ok (.imul, 1) := by decide +kernel
theorem dX4_twiceInkMoment_48 : decode cX4_twiceInkMoment 48 = .ok (.iload 6, 2) := by decide +kernel
theorem dX4_twiceInkMoment_50 : decode cX4_twiceInkMoment 50 = .ok (.iadd, 1) := by decide +kernel
theorem dX4_twiceInkMoment_51 : decode cX4_twiceInkMoment 51 = .ok (.imul, 1) := by decide +kernel
theorem dX4_twiceInkMoment_52 : decode cX4_twiceInkMoment 52 = .ok (.iadd, 1) := by decide +kernel
theorem dX4_twiceInkMoment_53 : decode cX4_twiceInkMoment 53 = .ok (.istore_n 2, 1) := by decide +kernel
theorem dX4_twiceInkMoment_54 : decode cX4_twiceInkMoment 54 = .ok (.iload_n 3, 1) := by decide +kernel
theorem dX4_twiceInkMoment_55 : decode cX4_twiceInkMoment 55 = .ok (.iload 6, 2) := by decide +kernel
theorem dX4_twiceInkMoment_57 : decode cX4_twiceInkMoment 57 = .ok (.aload_n 0, 1) := by decide +kernel
theorem dX4_twiceInkMoment_58 : decode cX4_twiceInkMoment 58 = .ok (.iload_n 1, 1) := by decide +kernel
theorem dX4_twiceInkMoment_59 : decode cX4_twiceInkMoment 59 = .ok (.iload 4, 2) := by decide +kernel
theorem dX4_twiceInkMoment_61 : decode cX4_twiceInkMoment 61 = .ok (.invokevirtual 108, 3) := by decide +kernel
theorem dX4_twiceInkMoment_64 : decode cX4_twiceInkMoment 64 = .ok (.iadd, 1) := by decide +kernel
theorem dX4_twiceInkMoment_65 : decode cX4_twiceInkMoment 65 = .ok (.iadd, 1) := by decide +kernel
theorem dX4_twiceInkMoment_66 : decode cX4_twiceInkMoment 66 = .ok (.istore_n 3, 1) := by decide +kernel
theorem dX4_twiceInkMoment_67 : decode cX4_twiceInkMoment 67 = .ok (.iinc 4 1, 3) := by decide +kernel
theorem dX4_twiceInkMoment_70 : decode cX4_twiceInkMoment 70 = .ok (.goto (-63), 3) := by decide +kernel
theorem dX4_twiceInkMoment_73 : decode cX4_twiceInkMoment 73 = .ok (.iload_n 2, 1) := by decide +kernel
theorem dX4_twiceInkMoment_74 : decode cX4_twiceInkMoment 74 = .ok (.ireturn, 1) := by decide +kernel
set_option maxRecDepth 20000 in
theorem ggX4_middleBegin_X4_columnBegin : GoodIn wsX4_middleBegin wsX4_columnBegin := goodIn_r _ [10, 11, 1, 12, 13, 14, 9, 15, 16, 17, 18, 19, 20, 21, 22, 23, 24, 25, 26, 27, 73, 74, 75, 76, 77, 78, 79, 80, 81, 82] (by decide +kernel) (by decide +kernel)
set_option maxRecDepth 20000 in
theorem gX4_middleBegin_X4_columnBegin : GoodIn wsX4_middleBegin (wsV RX4 148 RX4 yX4_columnBegin wsX4_columnBegin) := goodIn_app (goodIn_of _ (by decide +kernel)) ggX4_middleBegin_X4_columnBegin
set_option maxRecDepth 20000 in
theorem ggX4_middleBegin_X4_columnWidth : GoodIn wsX4_middleBegin wsX4_columnWidth := goodIn_r _ [20, 11, 16, 21, 22, 9, 23, 24, 25, 26, 27, 73, 74, 75, 76, 77, 78, 79, 80, 81, 82] (by decide +kernel) (by decide +kernel)
set_option maxRecDepth 20000 in
theorem gX4_middleBegin_X4_columnWidth : GoodIn wsX4_middleBegin (wsV RX4 131 RX4 yX4_columnWidth wsX4_columnWidth) := goodIn_app (goodIn_of _ (by decide +kernel)) ggX4_middleBegin_X4_columnWidth
set_option maxRecDepth 20000 in
theorem ggX4_middleBegin_X4_unitsOf : GoodIn wsX4_middleBegin wsX4_unitsOf := goodIn_r _ [31, 32, 33, 34, 35, 36, 37, 38, 39, 40, 41, 9, 42, 43, 44, 45, 46, 47, 48, 49, 50, 51, 52, 53, 54, 55, 56, 2, 3, 4, 5, 57, 58, 59, 60, 61, 62, 63, 64, 65, 66, 67, 68, 69, 70, 71, 72, 73, 74, 75, 76, 77, 78, 79, 80, 81, 82, 83, 84, 85, 86, 87, 88, 89] (by decide +kernel) (by decide +kernel)
set_option maxRecDepth 20000 in
theorem gX4_middleBegin_X4_unitsOf : GoodIn wsX4_middleBegin (wsV RX4 119 RX4 yX4_unitsOf wsX4_unitsOf) := goodIn_app (goodIn_of _ (by decide +kernel)) ggX4_middleBegin_X4_unitsOf
set_option maxRecDepth 20000 in
theorem ggX4_middleBegin_J9_floorDiv_7cf53 : GoodIn wsX4_middleBegin wsJ9_floorDiv_7cf53 := goodIn_r _ [27] (by decide +kernel) (by decide +kernel)
set_option maxRecDepth 20000 in
theorem gX4_middleBegin_J9_floorDiv_7cf53 : GoodIn wsX4_middleBegin (va_wsS RX4 160 yJ9_floorDiv_7cf53 wsJ9_floorDiv_7cf53) := goodIn_app (goodIn_of _ (by decide +kernel)) ggX4_middleBegin_J9_floorDiv_7cf53
theorem dX4_middleBegin_0 : decode cX4_middleBegin 0 = .ok (.aload_n 0, 1) := by decide +kernel
theorem dX4_middleBegin_1 : decode cX4_middleBegin 1 = .ok (.iload_n 1, 1) := by decide +kernel
theorem dX4_middleBegin_2 : decode cX4_middleBegin 2 = .ok (.invokevirtual 148, 3) := by decide +kernel
theorem dX4_middleBegin_5 : decode cX4_middleBegin 5 = .ok (.istore_n 3, 1) := by decide +kernel
theorem dX4_middleBegin_6 : decode cX4_middleBegin 6 = .ok (.aload_n 0, 1) := by decide +kernel
theorem dX4_middleBegin_7 : decode cX4_middleBegin 7 = .ok (.aload_n 0, 1) := by decide +kernel
theorem dX4_middleBegin_8 : decode cX4_middleBegin 8 = .ok (.getfield 25, 3) := by decide +kernel
theorem dX4_middleBegin_11 : decode cX4_middleBegin 11 = .ok (.invokevirtual 131, 3) := by decide +kernel
theorem dX4_middleBegin_14 : decode cX4_middleBegin 14 = .ok (.aload_n 0, 1) := by decide +kernel
theorem dX4_middleBegin_15 : decode cX4_middleBegin 15 = .ok (.iload_n 1, 1) := by decide +kernel
theorem dX4_middleBegin_16 : decode cX4_middleBegin 16 = .ok (.invokevirtual 119, 3) := by decide +kernel
theorem dX4_middleBegin_19 : decode cX4_middleBegin 19 = .ok (.iload_n 2, 1) := by decide +kernel
theorem dX4_middleBegin_20 : decode cX4_middleBegin 20 = .ok (.imul, 1) := by decide +kernel
theorem dX4_middleBegin_21 : decode cX4_middleBegin 21 = .ok (.isub, 1) := by decide +kernel
theorem dX4_middleBegin_22 : decode cX4_middleBegin 22 = .ok (.istore 4, 2) := by decide +kernel
theorem dX4_middleBegin_24 : decode cX4_middleBegin 24 = .ok (.iload_n 3, 1) := by decide +kernel
theorem dX4_middleBegin_25 : decode cX4_middleBegin 25 = .ok (.iload_n 3, 1) := by decide +kernel
theorem dX4_middleBegin_26 : decode cX4_middleBegin 26 = .ok (.iload 4, 2) := by decide +kernel
theorem dX4_middleBegin_28 : decode cX4_middleBegin 28 = .ok (.iconst 2, 1) := by decide +kernel
theorem dX4_middleBegin_29 : decode cX4_middleBegin 29 = .ok (.invokestatic 160, 3) := by decide +kernel
theorem dX4_middleBegin_32 : decode cX4_middleBegin 32 = .ok (.iadd, 1) := by decide +kernel
theorem dX4_middleBegin_33 : decode cX4_middleBegin 33 = .ok (.invokestatic 102, 3) := by decide +kernel
theorem dX4_middleBegin_36 : decode cX4_middleBegin 36 = .ok (.ireturn, 1) := by decide +kernel
set_option maxRecDepth 20000 in
theorem ggX4_indexAt_X4_beginOf : GoodIn wsX4_indexAt wsX4_beginOf := goodIn_r _ [6, 7, 8, 9, 10, 11, 12, 13, 14, 15, 16, 17, 5, 18, 19, 20, 21, 22, 23, 24, 25, 26, 27, 28, 29, 30, 31, 32, 33, 34, 35, 36, 37, 38, 39, 1, 40, 41, 42, 43, 44, 45, 46, 47, 48, 49, 50, 51, 52, 53, 54, 55, 56, 57, 58, 59, 60, 61, 62, 63, 64, 65, 66, 67, 68, 69, 70, 71, 72, 73, 74, 75, 76, 77, 78, 79, 80, 81, 82, 83, 84, 85, 86, 87, 88, 89, 90, 91, 92, 93, 94, 95, 96, 97, 98, 99, 100, 101, 102, 103, 104, 105, 106, 107] (by decide +kernel) (by decide +kernel)
set_option maxRecDepth 20000 in
theorem gX4_indexAt_X4_beginOf : GoodIn wsX4_indexAt (wsV RX4 163 RX4 yX4_beginOf wsX4_beginOf) := goodIn_app (goodIn_of _ (by decide +kernel)) ggX4_indexAt_X4_beginOf
set_option maxRecDepth 20000 in
theorem ggX4_indexAt_X1_lengthOf : GoodIn wsX4_indexAt wsX1_lengthOf := goodIn_r _ [44, 45, 101, 102, 103] (by decide +kernel) (by decide +kernel)
set_option maxRecDepth 20000 in
theorem gX4_indexAt_X1_lengthOf : GoodIn wsX4_indexAt (wsV RX4 82 RX1 yX1_lengthOf wsX1_lengthOf) := goodIn_app (goodIn_of _ (by decide +kernel)) ggX4_indexAt_X1_lengthOf
set_option maxRecDepth 20000 in
theorem ggX4_indexAt_X1_codeAt : GoodIn wsX4_indexAt wsX1_codeAt := goodIn_r _ [49, 50, 101, 102, 103] (by decide +kernel) (by decide +kernel)
set_option maxRecDepth 20000 in
theorem gX4_indexAt_X1_codeAt : GoodIn wsX4_indexAt (wsV RX4 85 RX1 yX1_codeAt wsX1_codeAt) := goodIn_app (goodIn_of _ (by decide +kernel)) ggX4_indexAt_X1_codeAt
set_option maxRecDepth 20000 in
theorem ggX4_indexAt_X3_width : GoodIn wsX4_indexAt wsX3_width := goodIn_r _ [61] (by decide +kernel) (by decide +kernel)
set_option maxRecDepth 20000 in
theorem gX4_indexAt_X3_width : GoodIn wsX4_indexAt (va_wsS RX4 111 yX3_width wsX3_width) := goodIn_app (goodIn_of _ (by decide +kernel)) ggX4_indexAt_X3_width
set_option maxRecDepth 20000 in
theorem ggX4_indexAt_X4_spaceBehind : GoodIn wsX4_indexAt wsX4_spaceBehind := goodIn_r _ [65, 1, 66, 12, 13, 10, 14, 40, 41, 42, 43, 44, 45, 46, 47, 48, 49, 50, 67, 68, 69, 70, 71, 72, 73, 74, 75, 76, 77, 78, 79, 80, 81, 53, 82, 91, 92, 93, 94, 95, 96, 97, 98, 99, 100, 101, 102, 103, 104, 105, 106, 107] (by decide +kernel) (by decide +kernel)
set_option maxRecDepth 20000 in
theorem gX4_indexAt_X4_spaceBehind : GoodIn wsX4_indexAt (wsV RX4 108 RX4 yX4_spaceBehind wsX4_spaceBehind) := goodIn_app (goodIn_of _ (by decide +kernel)) ggX4_indexAt_X4_spaceBehind
theorem dX4_indexAt_0 : decode cX4_indexAt 0 = .ok (.aload_n 0, 1) := by decide +kernel
theorem dX4_indexAt_1 : decode cX4_indexAt 1 = .ok (.iload_n 1, 1) := by decide +kernel
theorem dX4_indexAt_2 : decode cX4_indexAt 2 = .ok (.iload_n 3, 1) := by decide +kernel
theorem dX4_indexAt_3 : decode cX4_indexAt 3 = .ok (.invokevirtual 163, 3) := by decide +kernel
theorem dX4_indexAt_6 : decode cX4_indexAt 6 = .ok (.istore 4, 2) := by decide +kernel
theorem dX4_indexAt_8 : decode cX4_indexAt 8 = .ok (.iconst 0, 1) := by decide +kernel
theorem dX4_indexAt_9 : decode cX4_indexAt 9 = .ok (.istore 5, 2) := by decide +kernel
theorem dX4_indexAt_11 : decode cX4_indexAt 11 = .ok (.iload 5, 2) := by decide +kernel
theorem dX4_indexAt_13 : decode cX4_indexAt 13 = .ok (.aload_n 0, 1) := by decide +kernel
theorem dX4_indexAt_14 : decode cX4_indexAt 14 = .ok (.getfield 12, 3) := by decide +kernel
theorem dX4_indexAt_17 : decode cX4_indexAt 17 = .ok (.iload_n 1, 1) := by decide +kernel
theorem dX4_indexAt_18 : decode cX4_indexAt 18 = .ok (.invokevirtual 82, 3) := by decide +kernel
theorem dX4_indexAt_21 : decode cX4_indexAt 21 = .ok (.if_icmp .ge 58, 3) := by decide +kernel
theorem dX4_indexAt_24 : decode cX4_indexAt 24 = .ok (.iload 4, 2) := by decide +kernel
theorem dX4_indexAt_26 : decode cX4_indexAt 26 = .ok (.aload_n 0, 1) := by decide +kernel
theorem dX4_indexAt_27 : decode cX4_indexAt 27 = .ok (.getfield 12, 3) := by decide +kernel
theorem dX4_indexAt_30 : decode cX4_indexAt 30 = .ok (.iload_n 1, 1) := by decide +kernel
theorem dX4_indexAt_31 : decode cX4_indexAt 31 = .ok (.iload 5, 2) := by decide +kernel
theorem dX4_indexAt_33 : decode cX4_indexAt 33 = .ok (.invokevirtual 85, 3) := by decide +kernel
theorem dX4_indexAt_36 : decode cX4_indexAt 36 = .ok (.invokestatic 111, 3) := by decide +kernel
theorem dX4_indexAt_39 : decode cX4_indexAt 39 = .ok (.iload_n 3, 1) := by decide +kernel
theorem dX4_indexAt_40 : decode cX4_indexAt 40 = .ok (.imul, 1) := by decide +kernel
theorem dX4_indexAt_41 : decode cX4_indexAt 41 = .ok (.iadd, 1) := by decide +kernel
theorem dX4_indexAt_42 : decode cX4_indexAt 42 = .ok (.istore 6, 2) := by decide +kernel
theorem dX4_indexAt_44 : decode cX4_indexAt 44 = .ok (.iload_n 2, 1) := by decide +kernel
theorem dX4_indexAt_45 : decode cX4_indexAt 45 = .ok (.iload 4, 2) := by decide +kernel
theorem dX4_indexAt_47 : decode cX4_indexAt 47 = .ok (.if_icmp .lt 12, 3) := by decide +kernel
theorem dX4_indexAt_50 : decode cX4_indexAt 50 = .ok (.iload_n 2, 1) := by decide +kernel
theorem dX4_indexAt_51 : decode cX4_indexAt 51 = .ok (.iload 6, 2) := by decide +kernel
theorem dX4_indexAt_53 : decode cX4_indexAt 53 = .ok (.if_icmp .ge 6, 3) := by decide +kernel
theorem dX4_indexAt_56 : decode cX4_indexAt 56 = .ok (.iload 5, 2) := by decide +kernel
theorem dX4_indexAt_58 : decode cX4_indexAt 58 = .ok (.ireturn, 1) := by decide +kernel
theorem dX4_indexAt_59 : decode cX4_indexAt 59 = .ok (.iload 6, 2) := by decide +kernel
theorem dX4_indexAt_61 : decode cX4_indexAt 61 = .ok (.aload_n 0, 1) := by decide +kernel
theorem dX4_indexAt_62 : decode cX4_indexAt 62 = .ok (.iload_n 1, 1) := by decide +kernel
theorem dX4_indexAt_63 : decode cX4_indexAt 63 = .ok (.iload 5, 2) := by decide +kernel
theorem dX4_indexAt_65 : decode cX4_indexAt 65 = .ok (.invokevirtual 108, 3) := by decide +kernel
theorem dX4_indexAt_68 : decode cX4_indexAt 68 = .ok (.iload_n 3, 1) := by decide +kernel
theorem dX4_indexAt_69 : decode cX4_indexAt 69 = .ok (.imul, 1) := by decide +kernel
theorem dX4_indexAt_70 : decode cX4_indexAt 70 = .ok (.iadd, 1) := by decide +kernel
theorem dX4_indexAt_71 : decode cX4_indexAt 71 = .ok (.istore 4, 2) := by decide +kernel
theorem dX4_indexAt_73 : decode cX4_indexAt 73 = .ok (.iinc 5 1, 3) := by decide +kernel
theorem dX4_indexAt_76 : decode cX4_indexAt 76 = .ok (.goto (-65), 3) := by decide +kernel
theorem dX4_indexAt_79 : decode cX4_indexAt 79 = .ok (.iconst (-1), 1) := by decide +kernel
theorem dX4_indexAt_80 : decode cX4_indexAt 80 = .ok (.ireturn, 1) := by decide +kernel
set_option maxRecDepth 20000 in
theorem ggX4_quotient_J9_floorDiv_7cf53 : GoodIn wsX4_quotient wsJ9_floorDiv_7cf53 := goodIn_r _ [4] (by decide +kernel) (by decide +kernel)
set_option maxRecDepth 20000 in
theorem gX4_quotient_J9_floorDiv_7cf53 : GoodIn wsX4_quotient (va_wsS RX4 160 yJ9_floorDiv_7cf53 wsJ9_floorDiv_7cf53) := goodIn_app (goodIn_of _ (by decide +kernel)) ggX4_quotient_J9_floorDiv_7cf53
theorem dX4_quotient_0 : decode cX4_quotient 0 = .ok (.iload_n 1, 1) := by decide +kernel
theorem dX4_quotient_1 : decode cX4_quotient 1 = .ok (.ifCond .le 11, 3) := by decide +kernel
theorem dX4_quotient_4 : decode cX4_quotient 4 = .ok (.iload_n 0, 1) := by decide +kernel
theorem dX4_quotient_5 : decode cX4_quotient 5 = .ok (.iload_n 1, 1) := by decide +kernel
theorem dX4_quotient_6 : decode cX4_quotient 6 = .ok (.invokestatic 160, 3) := by decide +kernel
theorem dX4_quotient_9 : decode cX4_quotient 9 = .ok (.goto 4, 3) := by decide +kernel
theorem dX4_quotient_12 : decode cX4_quotient 12 = .ok (.iconst 0, 1) := by decide +kernel
theorem dX4_quotient_13 : decode cX4_quotient 13 = .ok (.ireturn, 1) := by decide +kernel
theorem dX5_init_0 : decode cX5_init 0 = .ok (.aload_n 0, 1) := by decide +kernel
theorem dX5_init_1 : decode cX5_init 1 = .ok (.invokespecial 3, 3) := by decide +kernel
theorem dX5_init_4 : decode cX5_init 4 = .ok (.aload_n 0, 1) := by decide +kernel
theorem dX5_init_5 : decode cX5_init 5 = .ok (.bipush 60, 2) := by decide +kernel
theorem dX5_init_7 : decode cX5_init 7 = .ok (.newarray .char, 2) := by decide +kernel
theorem dX5_init_9 : decode cX5_init 9 = .ok (.putfield 9, 3) := by decide +kernel
theorem dX5_init_12 : decode cX5_init 12 = .ok (.aload_n 0, 1) := by decide +kernel
theorem dX5_init_13 : decode cX5_init 13 = .ok (.iconst 0, 1) := by decide +kernel
theorem dX5_init_14 : decode cX5_init 14 = .ok (.putfield 15, 3) := by decide +kernel
theorem dX5_init_17 : decode cX5_init 17 = .ok (.return_, 1) := by decide +kernel
theorem dX5_isFull_0 : decode cX5_isFull 0 = .ok (.aload_n 0, 1) := by decide +kernel
theorem dX5_isFull_1 : decode cX5_isFull 1 = .ok (.getfield 15, 3) := by decide +kernel
theorem dX5_isFull_4 : decode cX5_isFull 4 = .ok (.bipush 60, 2) := by decide +kernel
theorem dX5_isFull_6 : decode cX5_isFull 6 = .ok (.if_icmp .lt 7, 3) := by decide +kernel
theorem dX5_isFull_9 : decode cX5_isFull 9 = .ok (.iconst 1, 1) := by decide +kernel
theorem dX5_isFull_10 : decode cX5_isFull 10 = .ok (.goto 4, 3) := by decide +kernel
theorem dX5_isFull_13 : decode cX5_isFull 13 = .ok (.iconst 0, 1) := by decide +kernel
theorem dX5_isFull_14 : decode cX5_isFull 14 = .ok (.ireturn, 1) := by decide +kernel
theorem dX5_append_0 : decode cX5_append 0 = .ok (.aload_n 0, 1) := by decide +kernel
theorem dX5_append_1 : decode cX5_append 1 = .ok (.getfield 15, 3) := by decide +kernel
theorem dX5_append_4 : decode cX5_append 4 = .ok (.ifCond .lt 35, 3) := by decide +kernel
theorem dX5_append_7 : decode cX5_append 7 = .ok (.aload_n 0, 1) := by decide +kernel
theorem dX5_append_8 : decode cX5_append 8 = .ok (.getfield 15, 3) := by decide +kernel
theorem dX5_append_11 : decode cX5_append 11 = .ok (.aload_n 0, 1) := by decide +kernel
theorem dX5_append_12 : decode cX5_append 12 = .ok (.getfield 9, 3) := by decide +kernel
theorem dX5_append_15 : decode cX5_append 15 = .ok (.arraylength, 1) := by decide +kernel
theorem dX5_append_16 : decode cX5_append 16 = .ok (.if_icmp .ge 23, 3) := by decide +kernel
theorem dX5_append_19 : decode cX5_append 19 = .ok (.aload_n 0, 1) := by decide +kernel
theorem dX5_append_20 : decode cX5_append 20 = .ok (.getfield 9, 3) := by decide +kernel
theorem dX5_append_23 : decode cX5_append 23 = .ok (.aload_n 0, 1) := by decide +kernel
theorem dX5_append_24 : decode cX5_append 24 = .ok (.getfield 15, 3) := by decide +kernel
theorem dX5_append_27 : decode cX5_append 27 = .ok (.iload_n 1, 1) := by decide +kernel
theorem dX5_append_28 : decode cX5_append 28 = .ok (.castore, 1) := by decide +kernel
theorem dX5_append_29 : decode cX5_append 29 = .ok (.aload_n 0, 1) := by decide +kernel
theorem dX5_append_30 : decode cX5_append 30 = .ok (.dup, 1) := by decide +kernel
theorem dX5_append_31 : decode cX5_append 31 = .ok (.getfield 15, 3) := by decide +kernel
theorem dX5_append_34 : decode cX5_append 34 = .ok (.iconst 1, 1) := by decide +kernel
theorem dX5_append_35 : decode cX5_append 35 = .ok (.iadd, 1) := by decide +kernel
theorem dX5_append_36 : decode cX5_append 36 = .ok (.putfield 15, 3) := by decide +kernel
theorem dX5_append_39 : decode cX5_append 39 = .ok (.return_, 1) := by decide +kernel
theorem dX5_characterAt_0 : decode cX5_characterAt 0 = .ok (.iload_n 1, 1) := by decide +kernel
theorem dX5_characterAt_1 : decode cX5_characterAt 1 = .ok (.ifCond .lt 21, 3) := by decide +kernel
theorem dX5_characterAt_4 : decode cX5_characterAt 4 = .ok (.iload_n 1, 1) := by decide +kernel
theorem dX5_characterAt_5 : decode cX5_characterAt 5 = .ok (.aload_n 0, 1) := by decide +kernel
theorem dX5_characterAt_6 : decode cX5_characterAt 6 = .ok (.getfield 9, 3) := by decide +kernel
theorem dX5_characterAt_9 : decode cX5_characterAt 9 = .ok (.arraylength, 1) := by decide +kernel
theorem dX5_characterAt_10 : decode cX5_characterAt 10 = .ok (.if_icmp .ge 12, 3) := by decide +kernel
