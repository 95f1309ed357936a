theorem dX0_slotAt_32 : decode cX0_slotAt 32 = .ok (.areturn, 1) := by decide +kernel
theorem dX1_init_0 : decode cX1_init 0 = .ok (.aload_n 0, 1) := by decide +kernel
theorem dX1_init_1 : decode cX1_init 1 = .ok (.invokespecial 3, 3) := by decide +kernel
theorem dX1_init_4 : decode cX1_init 4 = .ok (.aload_n 0, 1) := by decide +kernel
theorem dX1_init_5 : decode cX1_init 5 = .ok (.sipush 320, 3) := by decide +kernel
theorem dX1_init_8 : decode cX1_init 8 = .ok (.newarray .char, 2) := by decide +kernel
theorem dX1_init_10 : decode cX1_init 10 = .ok (.putfield 9, 3) := by decide +kernel
theorem dX1_init_13 : decode cX1_init 13 = .ok (.aload_n 0, 1) := by decide +kernel
theorem dX1_init_14 : decode cX1_init 14 = .ok (.bipush 20, 2) := by decide +kernel
theorem dX1_init_16 : decode cX1_init 16 = .ok (.newarray .int, 2) := by decide +kernel
theorem dX1_init_18 : decode cX1_init 18 = .ok (.putfield 15, 3) := by decide +kernel
theorem dX1_init_21 : decode cX1_init 21 = .ok (.aload_n 0, 1) := by decide +kernel
theorem dX1_init_22 : decode cX1_init 22 = .ok (.iconst 0, 1) := by decide +kernel
theorem dX1_init_23 : decode cX1_init 23 = .ok (.putfield 19, 3) := by decide +kernel
theorem dX1_init_26 : decode cX1_init 26 = .ok (.return_, 1) := by decide +kernel
theorem dX1_copyFrom_0 : decode cX1_copyFrom 0 = .ok (.aload_n 1, 1) := by decide +kernel
theorem dX1_copyFrom_1 : decode cX1_copyFrom 1 = .ok (.getfield 9, 3) := by decide +kernel
theorem dX1_copyFrom_4 : decode cX1_copyFrom 4 = .ok (.iconst 0, 1) := by decide +kernel
theorem dX1_copyFrom_5 : decode cX1_copyFrom 5 = .ok (.aload_n 0, 1) := by decide +kernel
theorem dX1_copyFrom_6 : decode cX1_copyFrom 6 = .ok (.getfield 9, 3) := by decide +kernel
theorem dX1_copyFrom_9 : decode cX1_copyFrom 9 = .ok (.iconst 0, 1) := by decide +kernel
theorem dX1_copyFrom_10 : decode cX1_copyFrom 10 = .ok (.aload_n 0, 1) := by decide +kernel
theorem dX1_copyFrom_11 : decode cX1_copyFrom 11 = .ok (.getfield 9, 3) := by decide +kernel
theorem dX1_copyFrom_14 : decode cX1_copyFrom 14 = .ok (.arraylength, 1) := by decide +kernel
theorem dX1_copyFrom_15 : decode cX1_copyFrom 15 = .ok (.invokestatic 23, 3) := by decide +kernel
theorem dX1_copyFrom_18 : decode cX1_copyFrom 18 = .ok (.aload_n 1, 1) := by decide +kernel
theorem dX1_copyFrom_19 : decode cX1_copyFrom 19 = .ok (.getfield 15, 3) := by decide +kernel
theorem dX1_copyFrom_22 : decode cX1_copyFrom 22 = .ok (.iconst 0, 1) := by decide +kernel
theorem dX1_copyFrom_23 : decode cX1_copyFrom 23 = .ok (.aload_n 0, 1) := by decide +kernel
theorem dX1_copyFrom_24 : decode cX1_copyFrom 24 = .ok (.getfield 15, 3) := by decide +kernel
theorem dX1_copyFrom_27 : decode cX1_copyFrom 27 = .ok (.iconst 0, 1) := by decide +kernel
theorem dX1_copyFrom_28 : decode cX1_copyFrom 28 = .ok (.aload_n 0, 1) := by decide +kernel
theorem dX1_copyFrom_29 : decode cX1_copyFrom 29 = .ok (.getfield 15, 3) := by decide +kernel
theorem dX1_copyFrom_32 : decode cX1_copyFrom 32 = .ok (.arraylength, 1) := by decide +kernel
theorem dX1_copyFrom_33 : decode cX1_copyFrom 33 = .ok (.invokestatic 23, 3) := by decide +kernel
theorem dX1_copyFrom_36 : decode cX1_copyFrom 36 = .ok (.aload_n 0, 1) := by decide +kernel
theorem dX1_copyFrom_37 : decode cX1_copyFrom 37 = .ok (.aload_n 1, 1) := by decide +kernel
theorem dX1_copyFrom_38 : decode cX1_copyFrom 38 = .ok (.getfield 19, 3) := by decide +kernel
theorem dX1_copyFrom_41 : decode cX1_copyFrom 41 = .ok (.putfield 19, 3) := by decide +kernel
theorem dX1_copyFrom_44 : decode cX1_copyFrom 44 = .ok (.return_, 1) := by decide +kernel
theorem dX1_isTaken_0 : decode cX1_isTaken 0 = .ok (.iload_n 1, 1) := by decide +kernel
theorem dX1_isTaken_1 : decode cX1_isTaken 1 = .ok (.ifCond .lt 21, 3) := by decide +kernel
theorem dX1_isTaken_4 : decode cX1_isTaken 4 = .ok (.iload_n 1, 1) := by decide +kernel
theorem dX1_isTaken_5 : decode cX1_isTaken 5 = .ok (.aload_n 0, 1) := by decide +kernel
theorem dX1_isTaken_6 : decode cX1_isTaken 6 = .ok (.getfield 19, 3) := by decide +kernel
theorem dX1_isTaken_9 : decode cX1_isTaken 9 = .ok (.if_icmp .ge 13, 3) := by decide +kernel
theorem dX1_isTaken_12 : decode cX1_isTaken 12 = .ok (.iload_n 1, 1) := by decide +kernel
theorem dX1_isTaken_13 : decode cX1_isTaken 13 = .ok (.bipush 20, 2) := by decide +kernel
theorem dX1_isTaken_15 : decode cX1_isTaken 15 = .ok (.if_icmp .ge 7, 3) := by decide +kernel
theorem dX1_isTaken_18 : decode cX1_isTaken 18 = .ok (.iconst 1, 1) := by decide +kernel
theorem dX1_isTaken_19 : decode cX1_isTaken 19 = .ok (.goto 4, 3) := by decide +kernel
theorem dX1_isTaken_22 : decode cX1_isTaken 22 = .ok (.iconst 0, 1) := by decide +kernel
theorem dX1_isTaken_23 : decode cX1_isTaken 23 = .ok (.ireturn, 1) := by decide +kernel
set_option maxRecDepth 20000 in
theorem ggX1_isIn_X1_isTaken : GoodIn wsX1_isIn wsX1_isTaken := goodIn_r _ [5, 6, 12, 13, 14] (by decide +kernel) (by decide +kernel)
set_option maxRecDepth 20000 in
theorem gX1_isIn_X1_isTaken : GoodIn wsX1_isIn (wsV RX1 29 RX1 yX1_isTaken wsX1_isTaken) := goodIn_app (goodIn_of _ (by decide +kernel)) ggX1_isIn_X1_isTaken
set_option maxRecDepth 20000 in
theorem ggX1_isIn_X1_lengthOf : GoodIn wsX1_isIn wsX1_lengthOf := goodIn_r _ [10, 11, 12, 13, 14] (by decide +kernel) (by decide +kernel)
set_option maxRecDepth 20000 in
theorem gX1_isIn_X1_lengthOf : GoodIn wsX1_isIn (wsV RX1 33 RX1 yX1_lengthOf wsX1_lengthOf) := goodIn_app (goodIn_of _ (by decide +kernel)) ggX1_isIn_X1_lengthOf
theorem dX1_isIn_0 : decode cX1_isIn 0 = .ok (.aload_n 0, 1) := by decide +kernel
theorem dX1_isIn_1 : decode cX1_isIn 1 = .ok (.iload_n 1, 1) := by decide +kernel
theorem dX1_isIn_2 : decode cX1_isIn 2 = .ok (.invokevirtual 29, 3) := by decide +kernel
theorem dX1_isIn_5 : decode cX1_isIn 5 = .ok (.ifCond .eq 20, 3) := by decide +kernel
theorem dX1_isIn_8 : decode cX1_isIn 8 = .ok (.iload_n 2, 1) := by decide +kernel
theorem dX1_isIn_9 : decode cX1_isIn 9 = .ok (.ifCond .lt 16, 3) := by decide +kernel
theorem dX1_isIn_12 : decode cX1_isIn 12 = .ok (.iload_n 2, 1) := by decide +kernel
theorem dX1_isIn_13 : decode cX1_isIn 13 = .ok (.aload_n 0, 1) := by decide +kernel
theorem dX1_isIn_14 : decode cX1_isIn 14 = .ok (.iload_n 1, 1) := by decide +kernel
theorem dX1_isIn_15 : decode cX1_isIn 15 = .ok (.invokevirtual 33, 3) := by decide +kernel
theorem dX1_isIn_18 : decode cX1_isIn 18 = .ok (.if_icmp .ge 7, 3) := by decide +kernel
theorem dX1_isIn_21 : decode cX1_isIn 21 = .ok (.iconst 1, 1) := by decide +kernel
theorem dX1_isIn_22 : decode cX1_isIn 22 = .ok (.goto 4, 3) := by decide +kernel
theorem dX1_isIn_25 : decode cX1_isIn 25 = .ok (.iconst 0, 1) := by decide +kernel
theorem dX1_isIn_26 : decode cX1_isIn 26 = .ok (.ireturn, 1) := by decide +kernel
set_option maxRecDepth 20000 in
theorem ggX1_isLast_X1_lengthOf : GoodIn wsX1_isLast wsX1_lengthOf := goodIn_r _ [5, 6, 7, 8, 9] (by decide +kernel) (by decide +kernel)
set_option maxRecDepth 20000 in
theorem gX1_isLast_X1_lengthOf : GoodIn wsX1_isLast (wsV RX1 33 RX1 yX1_lengthOf wsX1_lengthOf) := goodIn_app (goodIn_of _ (by decide +kernel)) ggX1_isLast_X1_lengthOf
theorem dX1_isLast_0 : decode cX1_isLast 0 = .ok (.iload_n 2, 1) := by decide +kernel
theorem dX1_isLast_1 : decode cX1_isLast 1 = .ok (.aload_n 0, 1) := by decide +kernel
theorem dX1_isLast_2 : decode cX1_isLast 2 = .ok (.iload_n 1, 1) := by decide +kernel
theorem dX1_isLast_3 : decode cX1_isLast 3 = .ok (.invokevirtual 33, 3) := by decide +kernel
theorem dX1_isLast_6 : decode cX1_isLast 6 = .ok (.iconst 1, 1) := by decide +kernel
theorem dX1_isLast_7 : decode cX1_isLast 7 = .ok (.isub, 1) := by decide +kernel
theorem dX1_isLast_8 : decode cX1_isLast 8 = .ok (.if_icmp .ne 7, 3) := by decide +kernel
theorem dX1_isLast_11 : decode cX1_isLast 11 = .ok (.iconst 1, 1) := by decide +kernel
theorem dX1_isLast_12 : decode cX1_isLast 12 = .ok (.goto 4, 3) := by decide +kernel
theorem dX1_isLast_15 : decode cX1_isLast 15 = .ok (.iconst 0, 1) := by decide +kernel
theorem dX1_isLast_16 : decode cX1_isLast 16 = .ok (.ireturn, 1) := by decide +kernel
theorem dX1_lengthOf_0 : decode cX1_lengthOf 0 = .ok (.iload_n 1, 1) := by decide +kernel
theorem dX1_lengthOf_1 : decode cX1_lengthOf 1 = .ok (.ifCond .lt 21, 3) := by decide +kernel
theorem dX1_lengthOf_4 : decode cX1_lengthOf 4 = .ok (.iload_n 1, 1) := by decide +kernel
theorem dX1_lengthOf_5 : decode cX1_lengthOf 5 = .ok (.aload_n 0, 1) := by decide +kernel
theorem dX1_lengthOf_6 : decode cX1_lengthOf 6 = .ok (.getfield 15, 3) := by decide +kernel
theorem dX1_lengthOf_9 : decode cX1_lengthOf 9 = .ok (.arraylength, 1) := by decide +kernel
theorem dX1_lengthOf_10 : decode cX1_lengthOf 10 = .ok (.if_icmp .ge 12, 3) := by decide +kernel
theorem dX1_lengthOf_13 : decode cX1_lengthOf 13 = .ok (.aload_n 0, 1) := by decide +kernel
theorem dX1_lengthOf_14 : decode cX1_lengthOf 14 = .ok (.getfield 15, 3) := by decide +kernel
theorem dX1_lengthOf_17 : decode cX1_lengthOf 17 = .ok (.iload_n 1, 1) := by decide +kernel
theorem dX1_lengthOf_18 : decode cX1_lengthOf 18 = .ok (.iaload, 1) := by decide +kernel
theorem dX1_lengthOf_19 : decode cX1_lengthOf 19 = .ok (.goto 4, 3) := by decide +kernel
theorem dX1_lengthOf_22 : decode cX1_lengthOf 22 = .ok (.iconst 0, 1) := by decide +kernel
theorem dX1_lengthOf_23 : decode cX1_lengthOf 23 = .ok (.ireturn, 1) := by decide +kernel
theorem dX1_codeAt_0 : decode cX1_codeAt 0 = .ok (.iload_n 1, 1) := by decide +kernel
theorem dX1_codeAt_1 : decode cX1_codeAt 1 = .ok (.bipush 16, 2) := by decide +kernel
theorem dX1_codeAt_3 : decode cX1_codeAt 3 = .ok (.imul, 1) := by decide +kernel
theorem dX1_codeAt_4 : decode cX1_codeAt 4 = .ok (.iload_n 2, 1) := by decide +kernel
theorem dX1_codeAt_5 : decode cX1_codeAt 5 = .ok (.iadd, 1) := by decide +kernel
theorem dX1_codeAt_6 : decode cX1_codeAt 6 = .ok (.istore_n 3, 1) := by decide +kernel
theorem dX1_codeAt_7 : decode cX1_codeAt 7 = .ok (.iload_n 3, 1) := by decide +kernel
theorem dX1_codeAt_8 : decode cX1_codeAt 8 = .ok (.ifCond .lt 21, 3) := by decide +kernel
theorem dX1_codeAt_11 : decode cX1_codeAt 11 = .ok (.iload_n 3, 1) := by decide +kernel
theorem dX1_codeAt_12 : decode cX1_codeAt 12 = .ok (.aload_n 0, 1) := by decide +kernel
theorem dX1_codeAt_13 : decode cX1_codeAt 13 = .ok (.getfield 9, 3) := by decide +kernel
theorem dX1_codeAt_16 : decode cX1_codeAt 16 = .ok (.arraylength, 1) := by decide +kernel
theorem dX1_codeAt_17 : decode cX1_codeAt 17 = .ok (.if_icmp .ge 12, 3) := by decide +kernel
theorem dX1_codeAt_20 : decode cX1_codeAt 20 = .ok (.aload_n 0, 1) := by decide +kernel
theorem dX1_codeAt_21 : decode cX1_codeAt 21 = .ok (.getfield 9, 3) := by decide +kernel
theorem dX1_codeAt_24 : decode cX1_codeAt 24 = .ok (.iload_n 3, 1) := by decide +kernel
theorem dX1_codeAt_25 : decode cX1_codeAt 25 = .ok (.caload, 1) := by decide +kernel
theorem dX1_codeAt_26 : decode cX1_codeAt 26 = .ok (.goto 5, 3) := by decide +kernel
theorem dX1_codeAt_29 : decode cX1_codeAt 29 = .ok (.bipush 59, 2) := by decide +kernel
theorem dX1_codeAt_31 : decode cX1_codeAt 31 = .ok (.ireturn, 1) := by decide +kernel
theorem dX1_begin_0 : decode cX1_begin 0 = .ok (.aload_n 0, 1) := by decide +kernel
theorem dX1_begin_1 : decode cX1_begin 1 = .ok (.getfield 19, 3) := by decide +kernel
theorem dX1_begin_4 : decode cX1_begin 4 = .ok (.ifCond .lt 32, 3) := by decide +kernel
theorem dX1_begin_7 : decode cX1_begin 7 = .ok (.aload_n 0, 1) := by decide +kernel
theorem dX1_begin_8 : decode cX1_begin 8 = .ok (.getfield 19, 3) := by decide +kernel
theorem dX1_begin_11 : decode cX1_begin 11 = .ok (.bipush 20, 2) := by decide +kernel
theorem dX1_begin_13 : decode cX1_begin 13 = .ok (.if_icmp .ge 23, 3) := by decide +kernel
theorem dX1_begin_16 : decode cX1_begin 16 = .ok (.aload_n 0, 1) := by decide +kernel
theorem dX1_begin_17 : decode cX1_begin 17 = .ok (.getfield 15, 3) := by decide +kernel
theorem dX1_begin_20 : decode cX1_begin 20 = .ok (.aload_n 0, 1) := by decide +kernel
theorem dX1_begin_21 : decode cX1_begin 21 = .ok (.getfield 19, 3) := by decide +kernel
theorem dX1_begin_24 : decode cX1_begin 24 = .ok (.iconst 0, 1) := by decide +kernel
theorem dX1_begin_25 : decode cX1_begin 25 = .ok (.iastore, 1) := by decide +kernel
theorem dX1_begin_26 : decode cX1_begin 26 = .ok (.aload_n 0, 1) := by decide +kernel
theorem dX1_begin_27 : decode cX1_begin 27 = .ok (.dup, 1) := by decide +kernel
theorem dX1_begin_28 : decode cX1_begin 28 = .ok (.getfield 19, 3) := by decide +kernel
theorem dX1_begin_31 : decode cX1_begin 31 = .ok (.iconst 1, 1) := by decide +kernel
theorem dX1_begin_32 : decode cX1_begin 32 = .ok (.iadd, 1) := by decide +kernel
theorem dX1_begin_33 : decode cX1_begin 33 = .ok (.putfield 19, 3) := by decide +kernel
theorem dX1_begin_36 : decode cX1_begin 36 = .ok (.return_, 1) := by decide +kernel
set_option maxRecDepth 20000 in
theorem ggX1_append_X1_isTaken : GoodIn wsX1_append wsX1_isTaken := goodIn_r _ [8, 1, 9, 10, 11] (by decide +kernel) (by decide +kernel)
set_option maxRecDepth 20000 in
theorem gX1_append_X1_isTaken : GoodIn wsX1_append (wsV RX1 29 RX1 yX1_isTaken wsX1_isTaken) := goodIn_app (goodIn_of _ (by decide +kernel)) ggX1_append_X1_isTaken
theorem dX1_append_0 : decode cX1_append 0 = .ok (.aload_n 0, 1) := by decide +kernel
theorem dX1_append_1 : decode cX1_append 1 = .ok (.getfield 19, 3) := by decide +kernel
theorem dX1_append_4 : decode cX1_append 4 = .ok (.iconst 1, 1) := by decide +kernel
theorem dX1_append_5 : decode cX1_append 5 = .ok (.isub, 1) := by decide +kernel
theorem dX1_append_6 : decode cX1_append 6 = .ok (.istore_n 2, 1) := by decide +kernel
theorem dX1_append_7 : decode cX1_append 7 = .ok (.aload_n 0, 1) := by decide +kernel
theorem dX1_append_8 : decode cX1_append 8 = .ok (.iload_n 2, 1) := by decide +kernel
theorem dX1_append_9 : decode cX1_append 9 = .ok (.invokevirtual 29, 3) := by decide +kernel
theorem dX1_append_12 : decode cX1_append 12 = .ok (.ifCond .eq 50, 3) := by decide +kernel
theorem dX1_append_15 : decode cX1_append 15 = .ok (.aload_n 0, 1) := by decide +kernel
theorem dX1_append_16 : decode cX1_append 16 = .ok (.getfield 15, 3) := by decide +kernel
theorem dX1_append_19 : decode cX1_append 19 = .ok (.iload_n 2, 1) := by decide +kernel
theorem dX1_append_20 : decode cX1_append 20 = .ok (.iaload, 1) := by decide +kernel
theorem dX1_append_21 : decode cX1_append 21 = .ok (.ifCond .lt 41, 3) := by decide +kernel
theorem dX1_append_24 : decode cX1_append 24 = .ok (.aload_n 0, 1) := by decide +kernel
theorem dX1_append_25 : decode cX1_append 25 = .ok (.getfield 15, 3) := by decide +kernel
theorem dX1_append_28 : decode cX1_append 28 = .ok (.iload_n 2, 1) := by decide +kernel
theorem dX1_append_29 : decode cX1_append 29 = .ok (.iaload, 1) := by decide +kernel
theorem dX1_append_30 : decode cX1_append 30 = .ok (.bipush 16, 2) := by decide +kernel
theorem dX1_append_32 : decode cX1_append 32 = .ok (.if_icmp .ge 30, 3) := by decide +kernel
theorem dX1_append_35 : decode cX1_append 35 = .ok (.aload_n 0, 1) := by decide +kernel
theorem dX1_append_36 : decode cX1_append 36 = .ok (.getfield 9, 3) := by decide +kernel
theorem dX1_append_39 : decode cX1_append 39 = .ok (.iload_n 2, 1) := by decide +kernel
theorem dX1_append_40 : decode cX1_append 40 = .ok (.bipush 16, 2) := by decide +kernel
theorem dX1_append_42 : decode cX1_append 42 = .ok (.imul, 1) := by decide +kernel
theorem dX1_append_43 : decode cX1_append 43 = .ok (.aload_n 0, 1) := by decide +kernel
theorem dX1_append_44 : decode cX1_append 44 = .ok (.getfield 15, 3) := by decide +kernel
theorem dX1_append_47 : decode cX1_append 47 = .ok (.iload_n 2, 1) := by decide +kernel
theorem dX1_append_48 : decode cX1_append 48 = .ok (.iaload, 1) := by decide +kernel
theorem dX1_append_49 : decode cX1_append 49 = .ok (.iadd, 1) := by decide +kernel
theorem dX1_append_50 : decode cX1_append 50 = .ok (.iload_n 1, 1) := by decide +kernel
theorem dX1_append_51 : decode cX1_append 51 = .ok (.castore, 1) := by decide +kernel
theorem dX1_append_52 : decode cX1_append 52 = .ok (.aload_n 0, 1) := by decide +kernel
theorem dX1_append_53 : decode cX1_append 53 = .ok (.getfield 15, 3) := by decide +kernel
theorem dX1_append_56 : decode cX1_append 56 = .ok (.iload_n 2, 1) := by decide +kernel
theorem dX1_append_57 : decode cX1_append 57 = .ok (.dup2, 1) := by decide +kernel
theorem dX1_append_58 : decode cX1_append 58 = .ok (.iaload, 1) := by decide +kernel
theorem dX1_append_59 : decode cX1_append 59 = .ok (.iconst 1, 1) := by decide +kernel
theorem dX1_append_60 : decode cX1_append 60 = .ok (.iadd, 1) := by decide +kernel
theorem dX1_append_61 : decode cX1_append 61 = .ok (.iastore, 1) := by decide +kernel
theorem dX1_append_62 : decode cX1_append 62 = .ok (.return_, 1) := by decide +kernel
set_option maxRecDepth 20000 in
theorem ggX1_takeOut_X1_isTaken : GoodIn wsX1_takeOut wsX1_isTaken := goodIn_r _ [6, 1, 13, 14, 15] (by decide +kernel) (by decide +kernel)
set_option maxRecDepth 20000 in
theorem gX1_takeOut_X1_isTaken : GoodIn wsX1_takeOut (wsV RX1 29 RX1 yX1_isTaken wsX1_isTaken) := goodIn_app (goodIn_of _ (by decide +kernel)) ggX1_takeOut_X1_isTaken
set_option maxRecDepth 20000 in
theorem ggX1_takeOut_X1_exchange : GoodIn wsX1_takeOut wsX1_exchange := goodIn_r _ [10, 11, 12, 2, 3, 4, 5, 6, 1, 13, 14, 15] (by decide +kernel) (by decide +kernel)
set_option maxRecDepth 20000 in
theorem gX1_takeOut_X1_exchange : GoodIn wsX1_takeOut (wsV RX1 37 RX1 yX1_exchange wsX1_exchange) := goodIn_app (goodIn_of _ (by decide +kernel)) ggX1_takeOut_X1_exchange
theorem dX1_takeOut_0 : decode cX1_takeOut 0 = .ok (.aload_n 0, 1) := by decide +kernel
theorem dX1_takeOut_1 : decode cX1_takeOut 1 = .ok (.iload_n 1, 1) := by decide +kernel
theorem dX1_takeOut_2 : decode cX1_takeOut 2 = .ok (.invokevirtual 29, 3) := by decide +kernel
theorem dX1_takeOut_5 : decode cX1_takeOut 5 = .ok (.ifCond .ne 4, 3) := by decide +kernel
theorem dX1_takeOut_8 : decode cX1_takeOut 8 = .ok (.return_, 1) := by decide +kernel
theorem dX1_takeOut_9 : decode cX1_takeOut 9 = .ok (.iload_n 1, 1) := by decide +kernel
theorem dX1_takeOut_10 : decode cX1_takeOut 10 = .ok (.iconst 1, 1) := by decide +kernel
theorem dX1_takeOut_11 : decode cX1_takeOut 11 = .ok (.iadd, 1) := by decide +kernel
theorem dX1_takeOut_12 : decode cX1_takeOut 12 = .ok (.istore_n 2, 1) := by decide +kernel
theorem dX1_takeOut_13 : decode cX1_takeOut 13 = .ok (.iload_n 2, 1) := by decide +kernel
theorem dX1_takeOut_14 : decode cX1_takeOut 14 = .ok (.aload_n 0, 1) := by decide +kernel
theorem dX1_takeOut_15 : decode cX1_takeOut 15 = .ok (.getfield 19, 3) := by decide +kernel
theorem dX1_takeOut_18 : decode cX1_takeOut 18 = .ok (.if_icmp .ge 23, 3) := by decide +kernel
theorem dX1_takeOut_21 : decode cX1_takeOut 21 = .ok (.iload_n 2, 1) := by decide +kernel
theorem dX1_takeOut_22 : decode cX1_takeOut 22 = .ok (.bipush 20, 2) := by decide +kernel
theorem dX1_takeOut_24 : decode cX1_takeOut 24 = .ok (.if_icmp .ge 17, 3) := by decide +kernel
theorem dX1_takeOut_27 : decode cX1_takeOut 27 = .ok (.aload_n 0, 1) := by decide +kernel
theorem dX1_takeOut_28 : decode cX1_takeOut 28 = .ok (.iload_n 2, 1) := by decide +kernel
theorem dX1_takeOut_29 : decode cX1_takeOut 29 = .ok (.iconst 1, 1) := by decide +kernel
theorem dX1_takeOut_30 : decode cX1_takeOut 30 = .ok (.isub, 1) := by decide +kernel
theorem dX1_takeOut_31 : decode cX1_takeOut 31 = .ok (.iload_n 2, 1) := by decide +kernel
theorem dX1_takeOut_32 : decode cX1_takeOut 32 = .ok (.invokevirtual 37, 3) := by decide +kernel
theorem dX1_takeOut_35 : decode cX1_takeOut 35 = .ok (.iinc 2 1, 3) := by decide +kernel
theorem dX1_takeOut_38 : decode cX1_takeOut 38 = .ok (.goto (-25), 3) := by decide +kernel
theorem dX1_takeOut_41 : decode cX1_takeOut 41 = .ok (.aload_n 0, 1) := by decide +kernel
theorem dX1_takeOut_42 : decode cX1_takeOut 42 = .ok (.dup, 1) := by decide +kernel
theorem dX1_takeOut_43 : decode cX1_takeOut 43 = .ok (.getfield 19, 3) := by decide +kernel
theorem dX1_takeOut_46 : decode cX1_takeOut 46 = .ok (.iconst 1, 1) := by decide +kernel
theorem dX1_takeOut_47 : decode cX1_takeOut 47 = .ok (.isub, 1) := by decide +kernel
theorem dX1_takeOut_48 : decode cX1_takeOut 48 = .ok (.putfield 19, 3) := by decide +kernel
theorem dX1_takeOut_51 : decode cX1_takeOut 51 = .ok (.return_, 1) := by decide +kernel
set_option maxRecDepth 20000 in
theorem ggX1_exchange_X1_isTaken : GoodIn wsX1_exchange wsX1_isTaken := goodIn_r _ [7, 8, 9, 10, 11] (by decide +kernel) (by decide +kernel)
set_option maxRecDepth 20000 in
theorem gX1_exchange_X1_isTaken : GoodIn wsX1_exchange (wsV RX1 29 RX1 yX1_isTaken wsX1_isTaken) := goodIn_app (goodIn_of _ (by decide +kernel)) ggX1_exchange_X1_isTaken
theorem dX1_exchange_0 : decode cX1_exchange 0 = .ok (.aload_n 0, 1) := by decide +kernel
theorem dX1_exchange_1 : decode cX1_exchange 1 = .ok (.iload_n 1, 1) := by decide +kernel
theorem dX1_exchange_2 : decode cX1_exchange 2 = .ok (.invokevirtual 29, 3) := by decide +kernel
theorem dX1_exchange_5 : decode cX1_exchange 5 = .ok (.ifCond .eq 11, 3) := by decide +kernel
theorem dX1_exchange_8 : decode cX1_exchange 8 = .ok (.aload_n 0, 1) := by decide +kernel
theorem dX1_exchange_9 : decode cX1_exchange 9 = .ok (.iload_n 2, 1) := by decide +kernel
theorem dX1_exchange_10 : decode cX1_exchange 10 = .ok (.invokevirtual 29, 3) := by decide +kernel
theorem dX1_exchange_13 : decode cX1_exchange 13 = .ok (.ifCond .ne 4, 3) := by decide +kernel
theorem dX1_exchange_16 : decode cX1_exchange 16 = .ok (.return_, 1) := by decide +kernel
theorem dX1_exchange_17 : decode cX1_exchange 17 = .ok (.iconst 0, 1) := by decide +kernel
theorem dX1_exchange_18 : decode cX1_exchange 18 = .ok (.istore_n 3, 1) := by decide +kernel
theorem dX1_exchange_19 : decode cX1_exchange 19 = .ok (.iload_n 3, 1) := by decide +kernel
theorem dX1_exchange_20 : decode cX1_exchange 20 = .ok (.bipush 16, 2) := by decide +kernel
theorem dX1_exchange_22 : decode cX1_exchange 22 = .ok (.if_icmp .ge 57, 3) := by decide +kernel
theorem dX1_exchange_25 : decode cX1_exchange 25 = .ok (.aload_n 0, 1) := by decide +kernel
theorem dX1_exchange_26 : decode cX1_exchange 26 = .ok (.getfield 9, 3) := by decide +kernel
theorem dX1_exchange_29 : decode cX1_exchange 29 = .ok (.iload_n 1, 1) := by decide +kernel
theorem dX1_exchange_30 : decode cX1_exchange 30 = .ok (.bipush 16, 2) := by decide +kernel
theorem dX1_exchange_32 : decode cX1_exchange 32 = .ok (.imul, 1) := by decide +kernel
theorem dX1_exchange_33 : decode cX1_exchange 33 = .ok (.iload_n 3, 1) := by decide +kernel
theorem dX1_exchange_34 : decode cX1_exchange 34 = .ok (.iadd, 1) := by decide +kernel
theorem dX1_exchange_35 : decode cX1_exchange 35 = .ok (.caload, 1) := by decide +kernel
theorem dX1_exchange_36 : decode cX1_exchange 36 = .ok (.istore 4, 2) := by decide +kernel
theorem dX1_exchange_38 : decode cX1_exchange 38 = .ok (.aload_n 0, 1) := by decide +kernel
theorem dX1_exchange_39 : decode cX1_exchange 39 = .ok (.getfield 9, 3) := by decide +kernel
theorem dX1_exchange_42 : decode cX1_exchange 42 = .ok (.iload_n 1, 1) := by decide +kernel
theorem dX1_exchange_43 : decode cX1_exchange 43 = .ok (.bipush 16, 2) := by decide +kernel
theorem dX1_exchange_45 : decode cX1_exchange 45 = .ok (.imul, 1) := by decide +kernel
theorem dX1_exchange_46 : decode cX1_exchange 46 = .ok (.iload_n 3, 1) := by decide +kernel
theorem dX1_exchange_47 : decode cX1_exchange 47 = .ok (.iadd, 1) := by decide +kernel
theorem dX1_exchange_48 : decode cX1_exchange 48 = .ok (.aload_n 0, 1) := by decide +kernel
theorem dX1_exchange_49 : decode cX1_exchange 49 = .ok (.getfield 9, 3) := by decide +kernel
theorem dX1_exchange_52 : decode cX1_exchange 52 = .ok (.iload_n 2, 1) := by decide +kernel
theorem dX1_exchange_53 : decode cX1_exchange 53 = .ok (.bipush 16, 2) := by decide +kernel
theorem dX1_exchange_55 : decode cX1_exchange 55 = .ok (.imul, 1) := by decide +kernel
theorem dX1_exchange_56 : decode cX1_exchange 56 = .ok (.iload_n 3, 1) := by decide +kernel
theorem dX1_exchange_57 : decode cX1_exchange 57 = .ok (.iadd, 1) := by decide +kernel
theorem dX1_exchange_58 : decode cX1_exchange 58 = .ok (.caload, 1) := by decide +kernel
theorem dX1_exchange_59 : decode cX1_exchange 59 = .ok (.castore, 1) := by decide +kernel
theorem dX1_exchange_60 : decode cX1_exchange 60 = .ok (.aload_n 0, 1) := by decide +kernel
theorem dX1_exchange_61 : decode cX1_exchange 61 = .ok (.getfield 9, 3) := by decide +kernel
theorem dX1_exchange_64 : decode cX1_exchange 64 = .ok (.iload_n 2, 1) := by decide +kernel
theorem dX1_exchange_65 : decode cX1_exchange 65 = .ok (.bipush 16, 2) := by decide +kernel
theorem dX1_exchange_67 : decode cX1_exchange 67 = .ok (.imul, 1) := by decide +kernel
theorem dX1_exchange_68 : decode cX1_exchange 68 = .ok (.iload_n 3, 1) := by decide +kernel
theorem dX1_exchange_69 : decode cX1_exchange 69 = .ok (.iadd, 1) := by decide +kernel
theorem dX1_exchange_70 : decode cX1_exchange 70 = .ok (.iload 4, 2) := by decide +kernel
theorem dX1_exchange_72 : decode cX1_exchange 72 = .ok (.castore, 1) := by decide +kernel
theorem dX1_exchange_73 : decode cX1_exchange 73 = .ok (.iinc 3 1, 3) := by decide +kernel
theorem dX1_exchange_76 : decode cX1_exchange 76 = .ok (.goto (-57), 3) := by decide +kernel
theorem dX1_exchange_79 : decode cX1_exchange 79 = .ok (.aload_n 0, 1) := by decide +kernel
theorem dX1_exchange_80 : decode cX1_exchange 80 = .ok (.getfield 15, 3) := by decide +kernel
theorem dX1_exchange_83 : decode cX1_exchange 83 = .ok (.iload_n 1, 1) := by decide +kernel
theorem dX1_exchange_84 : decode cX1_exchange 84 = .ok (.iaload, 1) := by decide +kernel
theorem dX1_exchange_85 : decode cX1_exchange 85 = .ok (.istore_n 3, 1) := by decide +kernel
theorem dX1_exchange_86 : decode cX1_exchange 86 = .ok (.aload_n 0, 1) := by decide +kernel
theorem dX1_exchange_87 : decode cX1_exchange 87 = .ok (.getfield 15, 3) := by decide +kernel
theorem dX1_exchange_90 : decode cX1_exchange 90 = .ok (.iload_n 1, 1) := by decide +kernel
theorem dX1_exchange_91 : decode cX1_exchange 91 = .ok (.aload_n 0, 1) := by decide +kernel
theorem dX1_exchange_92 : decode cX1_exchange 92 = .ok (.getfield 15, 3) := by decide +kernel
theorem dX1_exchange_95 : decode cX1_exchange 95 = .ok (.iload_n 2, 1) := by decide +kernel
theorem dX1_exchange_96 : decode cX1_exchange 96 = .ok (.iaload, 1) := by decide +kernel
theorem dX1_exchange_97 : decode cX1_exchange 97 = .ok (.iastore, 1) := by decide +kernel
theorem dX1_exchange_98 : decode cX1_exchange 98 = .ok (.aload_n 0, 1) := by decide +kernel
theorem dX1_exchange_99 : decode cX1_exchange 99 = .ok (.getfield 15, 3) := by decide +kernel
theorem dX1_exchange_102 : decode cX1_exchange 102 = .ok (.iload_n 2, 1) := by decide +kernel
theorem dX1_exchange_103 : decode cX1_exchange 103 = .ok (.iload_n 3, 1) := by decide +kernel
theorem dX1_exchange_104 : decode cX1_exchange 104 = .ok (.iastore, 1) := by decide +kernel
theorem dX1_exchange_105 : decode cX1_exchange 105 = .ok (.return_, 1) := by decide +kernel
theorem dX2_init_0 : decode cX2_init 0 = .ok (.aload_n 0, 1) := by decide +kernel
theorem dX2_init_1 : decode cX2_init 1 = .ok (.invokespecial 3, 3) := by decide +kernel
theorem dX2_init_4 : decode cX2_init 4 = .ok (.aload_n 0, 1) := by decide +kernel
theorem dX2_init_5 : decode cX2_init 5 = .ok (.bipush 16, 2) := by decide +kernel
theorem dX2_init_7 : decode cX2_init 7 = .ok (.newarray .char, 2) := by decide +kernel
theorem dX2_init_9 : decode cX2_init 9 = .ok (.putfield 9, 3) := by decide +kernel
theorem dX2_init_12 : decode cX2_init 12 = .ok (.aload_n 0, 1) := by decide +kernel
theorem dX2_init_13 : decode cX2_init 13 = .ok (.bipush 16, 2) := by decide +kernel
theorem dX2_init_15 : decode cX2_init 15 = .ok (.newarray .char, 2) := by decide +kernel
theorem dX2_init_17 : decode cX2_init 17 = .ok (.putfield 15, 3) := by decide +kernel
theorem dX2_init_20 : decode cX2_init 20 = .ok (.aload_n 0, 1) := by decide +kernel
theorem dX2_init_21 : decode cX2_init 21 = .ok (.bipush 16, 2) := by decide +kernel
theorem dX2_init_23 : decode cX2_init 23 = .ok (.newarray .int, 2) := by decide +kernel
theorem dX2_init_25 : decode cX2_init 25 = .ok (.putfield 18, 3) := by decide +kernel
theorem dX2_init_28 : decode cX2_init 28 = .ok (.aload_n 0, 1) := by decide +kernel
theorem dX2_init_29 : decode cX2_init 29 = .ok (.iconst 0, 1) := by decide +kernel
theorem dX2_init_30 : decode cX2_init 30 = .ok (.putfield 22, 3) := by decide +kernel
theorem dX2_init_33 : decode cX2_init 33 = .ok (.return_, 1) := by decide +kernel
theorem dX2_copyFrom_0 : decode cX2_copyFrom 0 = .ok (.aload_n 1, 1) := by decide +kernel
theorem dX2_copyFrom_1 : decode cX2_copyFrom 1 = .ok (.getfield 9, 3) := by decide +kernel
theorem dX2_copyFrom_4 : decode cX2_copyFrom 4 = .ok (.iconst 0, 1) := by decide +kernel
theorem dX2_copyFrom_5 : decode cX2_copyFrom 5 = .ok (.aload_n 0, 1) := by decide +kernel
theorem dX2_copyFrom_6 : decode cX2_copyFrom 6 = .ok (.getfield 9, 3) := by decide +kernel
theorem dX2_copyFrom_9 : decode cX2_copyFrom 9 = .ok (.iconst 0, 1) := by decide +kernel
theorem dX2_copyFrom_10 : decode cX2_copyFrom 10 = .ok (.aload_n 0, 1) := by decide +kernel
theorem dX2_copyFrom_11 : decode cX2_copyFrom 11 = .ok (.getfield 9, 3) := by decide +kernel
theorem dX2_copyFrom_14 : decode cX2_copyFrom 14 = .ok (.arraylength, 1) := by decide +kernel
theorem dX2_copyFrom_15 : decode cX2_copyFrom 15 = .ok (.invokestatic 26, 3) := by decide +kernel
theorem dX2_copyFrom_18 : decode cX2_copyFrom 18 = .ok (.aload_n 1, 1) := by decide +kernel
theorem dX2_copyFrom_19 : decode cX2_copyFrom 19 = .ok (.getfield 15, 3) := by decide +kernel
theorem dX2_copyFrom_22 : decode cX2_copyFrom 22 = .ok (.iconst 0, 1) := by decide +kernel
theorem dX2_copyFrom_23 : decode cX2_copyFrom 23 = .ok (.aload_n 0, 1) := by decide +kernel
theorem dX2_copyFrom_24 : decode cX2_copyFrom 24 = .ok (.getfield 15, 3) := by decide +kernel
theorem dX2_copyFrom_27 : decode cX2_copyFrom 27 = .ok (.iconst 0, 1) := by decide +kernel
theorem dX2_copyFrom_28 : decode cX2_copyFrom 28 = .ok (.aload_n 0, 1) := by decide +kernel
theorem dX2_copyFrom_29 : decode cX2_copyFrom 29 = .ok (.getfield 15, 3) := by decide +kernel
theorem dX2_copyFrom_32 : decode cX2_copyFrom 32 = .ok (.arraylength, 1) := by decide +kernel
theorem dX2_copyFrom_33 : decode cX2_copyFrom 33 = .ok (.invokestatic 26, 3) := by decide +kernel
theorem dX2_copyFrom_36 : decode cX2_copyFrom 36 = .ok (.aload_n 1, 1) := by decide +kernel
theorem dX2_copyFrom_37 : decode cX2_copyFrom 37 = .ok (.getfield 18, 3) := by decide +kernel
theorem dX2_copyFrom_40 : decode cX2_copyFrom 40 = .ok (.iconst 0, 1) := by decide +kernel
theorem dX2_copyFrom_41 : decode cX2_copyFrom 41 = .ok (.aload_n 0, 1) := by decide +kernel
theorem dX2_copyFrom_42 : decode cX2_copyFrom 42 = .ok (.getfield 18, 3) := by decide +kernel
theorem dX2_copyFrom_45 : decode cX2_copyFrom 45 = .ok (.iconst 0, 1) := by decide +kernel
theorem dX2_copyFrom_46 : decode cX2_copyFrom 46 = .ok (.aload_n 0, 1) := by decide +kernel
theorem dX2_copyFrom_47 : decode cX2_copyFrom 47 = .ok (.getfield 18, 3) := by decide +kernel
theorem dX2_copyFrom_50 : decode cX2_copyFrom 50 = .ok (.arraylength, 1) := by decide +kernel
theorem dX2_copyFrom_51 : decode cX2_copyFrom 51 = .ok (.invokestatic 26, 3) := by decide +kernel
theorem dX2_copyFrom_54 : decode cX2_copyFrom 54 = .ok (.aload_n 0, 1) := by decide +kernel
theorem dX2_copyFrom_55 : decode cX2_copyFrom 55 = .ok (.aload_n 1, 1) := by decide +kernel
theorem dX2_copyFrom_56 : decode cX2_copyFrom 56 = .ok (.getfield 22, 3) := by decide +kernel
theorem dX2_copyFrom_59 : decode cX2_copyFrom 59 = .ok (.putfield 22, 3) := by decide +kernel
theorem dX2_copyFrom_62 : decode cX2_copyFrom 62 = .ok (.return_, 1) := by decide +kernel
theorem dX2_isFull_0 : decode cX2_isFull 0 = .ok (.aload_n 0, 1) := by decide +kernel
theorem dX2_isFull_1 : decode cX2_isFull 1 = .ok (.getfield 22, 3) := by decide +kernel
theorem dX2_isFull_4 : decode cX2_isFull 4 = .ok (.bipush 16, 2) := by decide +kernel
theorem dX2_isFull_6 : decode cX2_isFull 6 = .ok (.if_icmp .lt 7, 3) := by decide +kernel
theorem dX2_isFull_9 : decode cX2_isFull 9 = .ok (.iconst 1, 1) := by decide +kernel
theorem dX2_isFull_10 : decode cX2_isFull 10 = .ok (.goto 4, 3) := by decide +kernel
theorem dX2_isFull_13 : decode cX2_isFull 13 = .ok (.iconst 0, 1) := by decide +kernel
theorem dX2_isFull_14 : decode cX2_isFull 14 = .ok (.ireturn, 1) := by decide +kernel
theorem dX2_isPlace_0 : decode cX2_isPlace 0 = .ok (.iload_n 1, 1) := by decide +kernel
theorem dX2_isPlace_1 : decode cX2_isPlace 1 = .ok (.ifCond .lt 21, 3) := by decide +kernel
theorem dX2_isPlace_4 : decode cX2_isPlace 4 = .ok (.iload_n 1, 1) := by decide +kernel
theorem dX2_isPlace_5 : decode cX2_isPlace 5 = .ok (.aload_n 0, 1) := by decide +kernel
theorem dX2_isPlace_6 : decode cX2_isPlace 6 = .ok (.getfield 22, 3) := by decide +kernel
theorem dX2_isPlace_9 : decode cX2_isPlace 9 = .ok (.if_icmp .ge 13, 3) := by decide +kernel
theorem dX2_isPlace_12 : decode cX2_isPlace 12 = .ok (.iload_n 1, 1) := by decide +kernel
theorem dX2_isPlace_13 : decode cX2_isPlace 13 = .ok (.bipush 16, 2) := by decide +kernel
theorem dX2_isPlace_15 : decode cX2_isPlace 15 = .ok (.if_icmp .ge 7, 3) := by decide +kernel
theorem dX2_isPlace_18 : decode cX2_isPlace 18 = .ok (.iconst 1, 1) := by decide +kernel
theorem dX2_isPlace_19 : decode cX2_isPlace 19 = .ok (.goto 4, 3) := by decide +kernel
theorem dX2_isPlace_22 : decode cX2_isPlace 22 = .ok (.iconst 0, 1) := by decide +kernel
theorem dX2_isPlace_23 : decode cX2_isPlace 23 = .ok (.ireturn, 1) := by decide +kernel
set_option maxRecDepth 20000 in
theorem ggX2_leftAt_X2_isPlace : GoodIn wsX2_leftAt wsX2_isPlace := goodIn_r _ [6, 7, 8, 9, 10, 11] (by decide +kernel) (by decide +kernel)
set_option maxRecDepth 20000 in
theorem gX2_leftAt_X2_isPlace : GoodIn wsX2_leftAt (wsV RX2 32 RX2 yX2_isPlace wsX2_isPlace) := goodIn_app (goodIn_of _ (by decide +kernel)) ggX2_leftAt_X2_isPlace
theorem dX2_leftAt_0 : decode cX2_leftAt 0 = .ok (.aload_n 0, 1) := by decide +kernel
theorem dX2_leftAt_1 : decode cX2_leftAt 1 = .ok (.iload_n 1, 1) := by decide +kernel
theorem dX2_leftAt_2 : decode cX2_leftAt 2 = .ok (.invokevirtual 32, 3) := by decide +kernel
theorem dX2_leftAt_5 : decode cX2_leftAt 5 = .ok (.ifCond .eq 12, 3) := by decide +kernel
theorem dX2_leftAt_8 : decode cX2_leftAt 8 = .ok (.aload_n 0, 1) := by decide +kernel
theorem dX2_leftAt_9 : decode cX2_leftAt 9 = .ok (.getfield 9, 3) := by decide +kernel
theorem dX2_leftAt_12 : decode cX2_leftAt 12 = .ok (.iload_n 1, 1) := by decide +kernel
theorem dX2_leftAt_13 : decode cX2_leftAt 13 = .ok (.caload, 1) := by decide +kernel
theorem dX2_leftAt_14 : decode cX2_leftAt 14 = .ok (.goto 5, 3) := by decide +kernel
theorem dX2_leftAt_17 : decode cX2_leftAt 17 = .ok (.bipush 59, 2) := by decide +kernel
theorem dX2_leftAt_19 : decode cX2_leftAt 19 = .ok (.ireturn, 1) := by decide +kernel
set_option maxRecDepth 20000 in
theorem ggX2_rightAt_X2_isPlace : GoodIn wsX2_rightAt wsX2_isPlace := goodIn_r _ [6, 7, 8, 9, 10, 11] (by decide +kernel) (by decide +kernel)
set_option maxRecDepth 20000 in
theorem gX2_rightAt_X2_isPlace : GoodIn wsX2_rightAt (wsV RX2 32 RX2 yX2_isPlace wsX2_isPlace) := goodIn_app (goodIn_of _ (by decide +kernel)) ggX2_rightAt_X2_isPlace
theorem dX2_rightAt_0 : decode cX2_rightAt 0 = .ok (.aload_n 0, 1) := by decide +kernel
theorem dX2_rightAt_1 : decode cX2_rightAt 1 = .ok (.iload_n 1, 1) := by decide +kernel
theorem dX2_rightAt_2 : decode cX2_rightAt 2 = .ok (.invokevirtual 32, 3) := by decide +kernel
theorem dX2_rightAt_5 : decode cX2_rightAt 5 = .ok (.ifCond .eq 12, 3) := by decide +kernel
theorem dX2_rightAt_8 : decode cX2_rightAt 8 = .ok (.aload_n 0, 1) := by decide +kernel
theorem dX2_rightAt_9 : decode cX2_rightAt 9 = .ok (.getfield 15, 3) := by decide +kernel
theorem dX2_rightAt_12 : decode cX2_rightAt 12 = .ok (.iload_n 1, 1) := by decide +kernel
theorem dX2_rightAt_13 : decode cX2_rightAt 13 = .ok (.caload, 1) := by decide +kernel
theorem dX2_rightAt_14 : decode cX2_rightAt 14 = .ok (.goto 5, 3) := by decide +kernel
theorem dX2_rightAt_17 : decode cX2_rightAt 17 = .ok (.bipush 59, 2) := by decide +kernel
theorem dX2_rightAt_19 : decode cX2_rightAt 19 = .ok (.ireturn, 1) := by decide +kernel
theorem dX2_adjustmentAt_0 : decode cX2_adjustmentAt 0 = .ok (.iload_n 1, 1) := by decide +kernel
theorem dX2_adjustmentAt_1 : decode cX2_adjustmentAt 1 = .ok (.ifCond .lt 26, 3) := by decide +kernel
theorem dX2_adjustmentAt_4 : decode cX2_adjustmentAt 4 = .ok (.iload_n 1, 1) := by decide +kernel
theorem dX2_adjustmentAt_5 : decode cX2_adjustmentAt 5 = .ok (.aload_n 0, 1) := by decide +kernel
theorem dX2_adjustmentAt_6 : decode cX2_adjustmentAt 6 = .ok (.getfield 22, 3) := by decide +kernel
theorem dX2_adjustmentAt_9 : decode cX2_adjustmentAt 9 = .ok (.if_icmp .ge 18, 3) := by decide +kernel
theorem dX2_adjustmentAt_12 : decode cX2_adjustmentAt 12 = .ok (.iload_n 1, 1) := by decide +kernel
theorem dX2_adjustmentAt_13 : decode cX2_adjustmentAt 13 = .ok (.bipush 16, 2) := by decide +kernel
theorem dX2_adjustmentAt_15 : decode cX2_adjustmentAt 15 = .ok (.if_icmp .ge 12, 3) := by decide +kernel
theorem dX2_adjustmentAt_18 : decode cX2_adjustmentAt 18 = .ok (.aload_n 0, 1) := by decide +kernel
theorem dX2_adjustmentAt_19 : decode cX2_adjustmentAt 19 = .ok (.getfield 18, 3) := by decide +kernel
theorem dX2_adjustmentAt_22 : decode cX2_adjustmentAt 22 = .ok (.iload_n 1, 1) := by decide +kernel
theorem dX2_adjustmentAt_23 : decode cX2_adjustmentAt 23 = .ok (.iaload, 1) := by decide +kernel
theorem dX2_adjustmentAt_24 : decode cX2_adjustmentAt 24 = .ok (.goto 4, 3) := by decide +kernel
theorem dX2_adjustmentAt_27 : decode cX2_adjustmentAt 27 = .ok (.iconst 0, 1) := by decide +kernel
theorem dX2_adjustmentAt_28 : decode cX2_adjustmentAt 28 = .ok (.ireturn, 1) := by decide +kernel
theorem dX2_placeOf_0 : decode cX2_placeOf 0 = .ok (.iconst 0, 1) := by decide +kernel
theorem dX2_placeOf_1 : decode cX2_placeOf 1 = .ok (.istore_n 3, 1) := by decide +kernel
theorem dX2_placeOf_2 : decode cX2_placeOf 2 = .ok (.iload_n 3, 1) := by decide +kernel
theorem dX2_placeOf_3 : decode cX2_placeOf 3 = .ok (.aload_n 0, 1) := by decide +kernel
theorem dX2_placeOf_4 : decode cX2_placeOf 4 = .ok (.getfield 22, 3) := by decide +kernel
theorem dX2_placeOf_7 : decode cX2_placeOf 7 = .ok (.if_icmp .ge 37, 3) := by decide +kernel
theorem dX2_placeOf_10 : decode cX2_placeOf 10 = .ok (.iload_n 3, 1) := by decide +kernel
theorem dX2_placeOf_11 : decode cX2_placeOf 11 = .ok (.bipush 16, 2) := by decide +kernel
theorem dX2_placeOf_13 : decode cX2_placeOf 13 = .ok (.if_icmp .ge 31, 3) := by decide +kernel
theorem dX2_placeOf_16 : decode cX2_placeOf 16 = .ok (.aload_n 0, 1) := by decide +kernel
theorem dX2_placeOf_17 : decode cX2_placeOf 17 = .ok (.getfield 9, 3) := by decide +kernel
theorem dX2_placeOf_20 : decode cX2_placeOf 20 = .ok (.iload_n 3, 1) := by decide +kernel
theorem dX2_placeOf_21 : decode cX2_placeOf 21 = .ok (.caload, 1) := by decide +kernel
theorem dX2_placeOf_22 : decode cX2_placeOf 22 = .ok (.iload_n 1, 1) := by decide +kernel
theorem dX2_placeOf_23 : decode cX2_placeOf 23 = .ok (.if_icmp .ne 15, 3) := by decide +kernel
theorem dX2_placeOf_26 : decode cX2_placeOf 26 = .ok (.aload_n 0, 1) := by decide +kernel
theorem dX2_placeOf_27 : decode cX2_placeOf 27 = .ok (.getfield 15, 3) := by decide +kernel
theorem dX2_placeOf_30 : decode cX2_placeOf 30 = .ok (.iload_n 3, 1) := by decide +kernel
theorem dX2_placeOf_31 : decode cX2_placeOf 31 = .ok (.caload, 1) := by decide +kernel
theorem dX2_placeOf_32 : decode cX2_placeOf 32 = .ok (.iload_n 2, 1) := by decide +kernel
theorem dX2_placeOf_33 : decode cX2_placeOf 33 = .ok (.if_icmp .ne 5, 3) := by decide +kernel
theorem dX2_placeOf_36 : decode cX2_placeOf 36 = .ok (.iload_n 3, 1) := by decide +kernel
theorem dX2_placeOf_37 : decode cX2_placeOf 37 = .ok (.ireturn, 1) := by decide +kernel
theorem dX2_placeOf_38 : decode cX2_placeOf 38 = .ok (.iinc 3 1, 3) := by decide +kernel
theorem dX2_placeOf_41 : decode cX2_placeOf 41 = .ok (.goto (-39), 3) := by decide +kernel
theorem dX2_placeOf_44 : decode cX2_placeOf 44 = .ok (.aload_n 0, 1) := by decide +kernel
theorem dX2_placeOf_45 : decode cX2_placeOf 45 = .ok (.getfield 22, 3) := by decide +kernel
theorem dX2_placeOf_48 : decode cX2_placeOf 48 = .ok (.ireturn, 1) := by decide +kernel
set_option maxRecDepth 20000 in
theorem ggX2_put_X2_placeOf : GoodIn wsX2_put wsX2_placeOf := goodIn_r _ [6, 7, 8, 9, 22, 23, 24, 25] (by decide +kernel) (by decide +kernel)
set_option maxRecDepth 20000 in
theorem gX2_put_X2_placeOf : GoodIn wsX2_put (wsV RX2 36 RX2 yX2_placeOf wsX2_placeOf) := goodIn_app (goodIn_of _ (by decide +kernel)) ggX2_put_X2_placeOf
set_option maxRecDepth 20000 in
theorem ggX2_put_X2_isPlace : GoodIn wsX2_put wsX2_isPlace := goodIn_r _ [13, 7, 22, 23, 24, 25] (by decide +kernel) (by decide +kernel)
set_option maxRecDepth 20000 in
theorem gX2_put_X2_isPlace : GoodIn wsX2_put (wsV RX2 32 RX2 yX2_isPlace wsX2_isPlace) := goodIn_app (goodIn_of _ (by decide +kernel)) ggX2_put_X2_isPlace
set_option maxRecDepth 20000 in
theorem ggX2_put_X2_takeOut : GoodIn wsX2_put wsX2_takeOut := goodIn_r _ [17, 7, 8, 9, 1, 22, 23, 24, 25] (by decide +kernel) (by decide +kernel)
set_option maxRecDepth 20000 in
theorem gX2_put_X2_takeOut : GoodIn wsX2_put (wsV RX2 40 RX2 yX2_takeOut wsX2_takeOut) := goodIn_app (goodIn_of _ (by decide +kernel)) ggX2_put_X2_takeOut
set_option maxRecDepth 20000 in
theorem ggX2_put_X2_append : GoodIn wsX2_put wsX2_append := goodIn_r _ [21, 7, 8, 9, 1, 22, 23, 24, 25] (by decide +kernel) (by decide +kernel)
set_option maxRecDepth 20000 in
theorem gX2_put_X2_append : GoodIn wsX2_put (wsV RX2 44 RX2 yX2_append wsX2_append) := goodIn_app (goodIn_of _ (by decide +kernel)) ggX2_put_X2_append
theorem dX2_put_0 : decode cX2_put 0 = .ok (.aload_n 0, 1) := by decide +kernel
theorem dX2_put_1 : decode cX2_put 1 = .ok (.iload_n 1, 1) := by decide +kernel
theorem dX2_put_2 : decode cX2_put 2 = .ok (.iload_n 2, 1) := by decide +kernel
theorem dX2_put_3 : decode cX2_put 3 = .ok (.invokevirtual 36, 3) := by decide +kernel
theorem dX2_put_6 : decode cX2_put 6 = .ok (.istore 4, 2) := by decide +kernel
theorem dX2_put_8 : decode cX2_put 8 = .ok (.aload_n 0, 1) := by decide +kernel
theorem dX2_put_9 : decode cX2_put 9 = .ok (.iload 4, 2) := by decide +kernel
theorem dX2_put_11 : decode cX2_put 11 = .ok (.invokevirtual 32, 3) := by decide +kernel
theorem dX2_put_14 : decode cX2_put 14 = .ok (.ifCond .eq 18, 3) := by decide +kernel
theorem dX2_put_17 : decode cX2_put 17 = .ok (.iload_n 3, 1) := by decide +kernel
theorem dX2_put_18 : decode cX2_put 18 = .ok (.ifCond .eq 14, 3) := by decide +kernel
theorem dX2_put_21 : decode cX2_put 21 = .ok (.aload_n 0, 1) := by decide +kernel
theorem dX2_put_22 : decode cX2_put 22 = .ok (.getfield 18, 3) := by decide +kernel
theorem dX2_put_25 : decode cX2_put 25 = .ok (.iload 4, 2) := by decide +kernel
theorem dX2_put_27 : decode cX2_put 27 = .ok (.iload_n 3, 1) := by decide +kernel
theorem dX2_put_28 : decode cX2_put 28 = .ok (.iastore, 1) := by decide +kernel
theorem dX2_put_29 : decode cX2_put 29 = .ok (.goto 32, 3) := by decide +kernel
theorem dX2_put_32 : decode cX2_put 32 = .ok (.aload_n 0, 1) := by decide +kernel
theorem dX2_put_33 : decode cX2_put 33 = .ok (.iload 4, 2) := by decide +kernel
theorem dX2_put_35 : decode cX2_put 35 = .ok (.invokevirtual 32, 3) := by decide +kernel
theorem dX2_put_38 : decode cX2_put 38 = .ok (.ifCond .eq 12, 3) := by decide +kernel
theorem dX2_put_41 : decode cX2_put 41 = .ok (.aload_n 0, 1) := by decide +kernel
theorem dX2_put_42 : decode cX2_put 42 = .ok (.iload 4, 2) := by decide +kernel
theorem dX2_put_44 : decode cX2_put 44 = .ok (.invokevirtual 40, 3) := by decide +kernel
theorem dX2_put_47 : decode cX2_put 47 = .ok (.goto 14, 3) := by decide +kernel
theorem dX2_put_50 : decode cX2_put 50 = .ok (.iload_n 3, 1) := by decide +kernel
theorem dX2_put_51 : decode cX2_put 51 = .ok (.ifCond .eq 10, 3) := by decide +kernel
theorem dX2_put_54 : decode cX2_put 54 = .ok (.aload_n 0, 1) := by decide +kernel
theorem dX2_put_55 : decode cX2_put 55 = .ok (.iload_n 1, 1) := by decide +kernel
theorem dX2_put_56 : decode cX2_put 56 = .ok (.iload_n 2, 1) := by decide +kernel
theorem dX2_put_57 : decode cX2_put 57 = .ok (.iload_n 3, 1) := by decide +kernel
theorem dX2_put_58 : decode cX2_put 58 = .ok (.invokevirtual 44, 3) := by decide +kernel
theorem dX2_put_61 : decode cX2_put 61 = .ok (.return_, 1) := by decide +kernel
theorem dX2_append_0 : decode cX2_append 0 = .ok (.aload_n 0, 1) := by decide +kernel
theorem dX2_append_1 : decode cX2_append 1 = .ok (.getfield 22, 3) := by decide +kernel
theorem dX2_append_4 : decode cX2_append 4 = .ok (.ifCond .lt 52, 3) := by decide +kernel
theorem dX2_append_7 : decode cX2_append 7 = .ok (.aload_n 0, 1) := by decide +kernel
theorem dX2_append_8 : decode cX2_append 8 = .ok (.getfield 22, 3) := by decide +kernel
theorem dX2_append_11 : decode cX2_append 11 = .ok (.bipush 16, 2) := by decide +kernel
theorem dX2_append_13 : decode cX2_append 13 = .ok (.if_icmp .ge 43, 3) := by decide +kernel
theorem dX2_append_16 : decode cX2_append 16 = .ok (.aload_n 0, 1) := by decide +kernel
theorem dX2_append_17 : decode cX2_append 17 = .ok (.getfield 9, 3) := by decide +kernel
theorem dX2_append_20 : decode cX2_append 20 = .ok (.aload_n 0, 1) := by decide +kernel
theorem dX2_append_21 : decode cX2_append 21 = .ok (.getfield 22, 3) := by decide +kernel
theorem dX2_append_24 : decode cX2_append 24 = .ok (.iload_n 1, 1) := by decide +kernel
theorem dX2_append_25 : decode cX2_append 25 = .ok (.castore, 1) := by decide +kernel
theorem dX2_append_26 : decode cX2_append 26 = .ok (.aload_n 0, 1) := by decide +kernel
theorem dX2_append_27 : decode cX2_append 27 = .ok (.getfield 15, 3) := by decide +kernel
theorem dX2_append_30 : decode cX2_append 30 = .ok (.aload_n 0, 1) := by decide +kernel
theorem dX2_append_31 : decode cX2_append 31 = .ok (.getfield 22, 3) := by decide +kernel
theorem dX2_append_34 : decode cX2_append 34 = .ok (.iload_n 2, 1) := by decide +kernel
theorem dX2_append_35 : decode cX2_append 35 = .ok (.castore, 1) := by decide +kernel
theorem dX2_append_36 : decode cX2_append 36 = .ok (.aload_n 0, 1) := by decide +kernel
theorem dX2_append_37 : decode cX2_append 37 = .ok (.getfield 18, 3) := by decide +kernel
theorem dX2_append_40 : decode cX2_append 40 = .ok (.aload_n 0, 1) := by decide +kernel
theorem dX2_append_41 : decode cX2_append 41 = .ok (.getfield 22, 3) := by decide +kernel
theorem dX2_append_44 : decode cX2_append 44 = .ok (.iload_n 3, 1) := by decide +kernel
theorem dX2_append_45 : decode cX2_append 45 = .ok (.iastore, 1) := by decide +kernel
theorem dX2_append_46 : decode cX2_append 46 = .ok (.aload_n 0, 1) := by decide +kernel
theorem dX2_append_47 : decode cX2_append 47 = .ok (.dup, 1) := by decide +kernel
theorem dX2_append_48 : decode cX2_append 48 = .ok (.getfield 22, 3) := by decide +kernel
theorem dX2_append_51 : decode cX2_append 51 = .ok (.iconst 1, 1) := by decide +kernel
theorem dX2_append_52 : decode cX2_append 52 = .ok (.iadd, 1) := by decide +kernel
theorem dX2_append_53 : decode cX2_append 53 = .ok (.putfield 22, 3) := by decide +kernel
theorem dX2_append_56 : decode cX2_append 56 = .ok (.return_, 1) := by decide +kernel
theorem dX2_takeOut_0 : decode cX2_takeOut 0 = .ok (.iload_n 1, 1) := by decide +kernel
theorem dX2_takeOut_1 : decode cX2_takeOut 1 = .ok (.iconst 1, 1) := by decide +kernel
theorem dX2_takeOut_2 : decode cX2_takeOut 2 = .ok (.iadd, 1) := by decide +kernel
theorem dX2_takeOut_3 : decode cX2_takeOut 3 = .ok (.istore_n 2, 1) := by decide +kernel
theorem dX2_takeOut_4 : decode cX2_takeOut 4 = .ok (.iload_n 2, 1) := by decide +kernel
theorem dX2_takeOut_5 : decode cX2_takeOut 5 = .ok (.aload_n 0, 1) := by decide +kernel
theorem dX2_takeOut_6 : decode cX2_takeOut 6 = .ok (.getfield 22, 3) := by decide +kernel
theorem dX2_takeOut_9 : decode cX2_takeOut 9 = .ok (.if_icmp .ge 57, 3) := by decide +kernel
theorem dX2_takeOut_12 : decode cX2_takeOut 12 = .ok (.iload_n 2, 1) := by decide +kernel
theorem dX2_takeOut_13 : decode cX2_takeOut 13 = .ok (.bipush 16, 2) := by decide +kernel
theorem dX2_takeOut_15 : decode cX2_takeOut 15 = .ok (.if_icmp .ge 51, 3) := by decide +kernel
theorem dX2_takeOut_18 : decode cX2_takeOut 18 = .ok (.aload_n 0, 1) := by decide +kernel
theorem dX2_takeOut_19 : decode cX2_takeOut 19 = .ok (.getfield 9, 3) := by decide +kernel
theorem dX2_takeOut_22 : decode cX2_takeOut 22 = .ok (.iload_n 2, 1) := by decide +kernel
theorem dX2_takeOut_23 : decode cX2_takeOut 23 = .ok (.iconst 1, 1) := by decide +kernel
theorem dX2_takeOut_24 : decode cX2_takeOut 24 = .ok (.isub, 1) := by decide +kernel
theorem dX2_takeOut_25 : decode cX2_takeOut 25 = .ok (.aload_n 0, 1) := by decide +kernel
theorem dX2_takeOut_26 : decode cX2_takeOut 26 = .ok (.getfield 9, 3) := by decide +kernel
theorem dX2_takeOut_29 : decode cX2_takeOut 29 = .ok (.iload_n 2, 1) := by decide +kernel
theorem dX2_takeOut_30 : decode cX2_takeOut 30 = .ok (.caload, 1) := by decide +kernel
theorem dX2_takeOut_31 : decode cX2_takeOut 31 = .ok (.castore, 1) := by decide +kernel
theorem dX2_takeOut_32 : decode cX2_takeOut 32 = .ok (.aload_n 0, 1) := by decide +kernel
theorem dX2_takeOut_33 : decode cX2_takeOut 33 = .ok (.getfield 15, 3) := by decide +kernel
theorem dX2_takeOut_36 : decode cX2_takeOut 36 = .ok (.iload_n 2, 1) := by decide +kernel
theorem dX2_takeOut_37 : decode cX2_takeOut 37 = .ok (.iconst 1, 1) := by decide +kernel
theorem dX2_takeOut_38 : decode cX2_takeOut 38 = .ok (.isub, 1) := by decide +kernel
theorem dX2_takeOut_39 : decode cX2_takeOut 39 = .ok (.aload_n 0, 1) := by decide +kernel
theorem dX2_takeOut_40 : decode cX2_takeOut 40 = .ok (.getfield 15, 3) := by decide +kernel
theorem dX2_takeOut_43 : decode cX2_takeOut 43 = .ok (.iload_n 2, 1) := by decide +kernel
theorem dX2_takeOut_44 : decode cX2_takeOut 44 = .ok (.caload, 1) := by decide +kernel
theorem dX2_takeOut_45 : decode cX2_takeOut 45 = .ok (.castore, 1) := by decide +kernel
theorem dX2_takeOut_46 : decode cX2_takeOut 46 = .ok (.aload_n 0, 1) := by decide +kernel
theorem dX2_takeOut_47 : decode cX2_takeOut 47 = .ok (.getfield 18, 3) := by decide +kernel
theorem dX2_takeOut_50 : decode cX2_takeOut 50 = .ok (.iload_n 2, 1) := by decide +kernel
theorem dX2_takeOut_51 : decode cX2_takeOut 51 = .ok (.iconst 1, 1) := by decide +kernel
theorem dX2_takeOut_52 : decode cX2_takeOut 52 = .ok (.isub, 1) := by decide +kernel
theorem dX2_takeOut_53 : decode cX2_takeOut 53 = .ok (.aload_n 0, 1) := by decide +kernel
theorem dX2_takeOut_54 : decode cX2_takeOut 54 = .ok (.getfield 18, 3) := by decide +kernel
theorem dX2_takeOut_57 : decode cX2_takeOut 57 = .ok (.iload_n 2, 1) := by decide +kernel
theorem dX2_takeOut_58 : decode cX2_takeOut 58 = .ok (.iaload, 1) := by decide +kernel
theorem dX2_takeOut_59 : decode cX2_takeOut 59 = .ok (.iastore, 1) := by decide +kernel
theorem dX2_takeOut_60 : decode cX2_takeOut 60 = .ok (.iinc 2 1, 3) := by decide +kernel
theorem dX2_takeOut_63 : decode cX2_takeOut 63 = .ok (.goto (-59), 3) := by decide +kernel
theorem dX2_takeOut_66 : decode cX2_takeOut 66 = .ok (.aload_n 0, 1) := by decide +kernel
theorem dX2_takeOut_67 : decode cX2_takeOut 67 = .ok (.dup, 1) := by decide +kernel
theorem dX2_takeOut_68 : decode cX2_takeOut 68 = .ok (.getfield 22, 3) := by decide +kernel
theorem dX2_takeOut_71 : decode cX2_takeOut 71 = .ok (.iconst 1, 1) := by decide +kernel
theorem dX2_takeOut_72 : decode cX2_takeOut 72 = .ok (.isub, 1) := by decide +kernel
theorem dX2_takeOut_73 : decode cX2_takeOut 73 = .ok (.putfield 22, 3) := by decide +kernel
theorem dX2_takeOut_76 : decode cX2_takeOut 76 = .ok (.return_, 1) := by decide +kernel
theorem dX3_isLetter_0 : decode cX3_isLetter 0 = .ok (.iload_n 0, 1) := by decide +kernel
theorem dX3_isLetter_1 : decode cX3_isLetter 1 = .ok (.bipush 65, 2) := by decide +kernel
theorem dX3_isLetter_3 : decode cX3_isLetter 3 = .ok (.if_icmp .lt 13, 3) := by decide +kernel
theorem dX3_isLetter_6 : decode cX3_isLetter 6 = .ok (.iload_n 0, 1) := by decide +kernel
theorem dX3_isLetter_7 : decode cX3_isLetter 7 = .ok (.bipush 90, 2) := by decide +kernel
theorem dX3_isLetter_9 : decode cX3_isLetter 9 = .ok (.if_icmp .gt 7, 3) := by decide +kernel
theorem dX3_isLetter_12 : decode cX3_isLetter 12 = .ok (.iconst 1, 1) := by decide +kernel
theorem dX3_isLetter_13 : decode cX3_isLetter 13 = .ok (.goto 4, 3) := by decide +kernel
theorem dX3_isLetter_16 : decode cX3_isLetter 16 = .ok (.iconst 0, 1) := by decide +kernel
theorem dX3_isLetter_17 : decode cX3_isLetter 17 = .ok (.ireturn, 1) := by decide +kernel
theorem dX3_isMark_0 : decode cX3_isMark 0 = .ok (.iload_n 0, 1) := by decide +kernel
theorem dX3_isMark_1 : decode cX3_isMark 1 = .ok (.bipush 46, 2) := by decide +kernel
theorem dX3_isMark_3 : decode cX3_isMark 3 = .ok (.if_icmp .eq 9, 3) := by decide +kernel
theorem dX3_isMark_6 : decode cX3_isMark 6 = .ok (.iload_n 0, 1) := by decide +kernel
theorem dX3_isMark_7 : decode cX3_isMark 7 = .ok (.bipush 45, 2) := by decide +kernel
theorem dX3_isMark_9 : decode cX3_isMark 9 = .ok (.if_icmp .ne 7, 3) := by decide +kernel
theorem dX3_isMark_12 : decode cX3_isMark 12 = .ok (.iconst 1, 1) := by decide +kernel
theorem dX3_isMark_13 : decode cX3_isMark 13 = .ok (.goto 4, 3) := by decide +kernel
theorem dX3_isMark_16 : decode cX3_isMark 16 = .ok (.iconst 0, 1) := by decide +kernel
theorem dX3_isMark_17 : decode cX3_isMark 17 = .ok (.ireturn, 1) := by decide +kernel
set_option maxRecDepth 20000 in
theorem ggX3_isKnown_X3_isLetter : GoodIn wsX3_isKnown wsX3_isLetter := goodIn_r _ [4] (by decide +kernel) (by decide +kernel)
set_option maxRecDepth 20000 in
theorem gX3_isKnown_X3_isLetter : GoodIn wsX3_isKnown (va_wsS RX3 7 yX3_isLetter wsX3_isLetter) := goodIn_app (goodIn_of _ (by decide +kernel)) ggX3_isKnown_X3_isLetter
set_option maxRecDepth 20000 in
theorem ggX3_isKnown_X3_isMark : GoodIn wsX3_isKnown wsX3_isMark := goodIn_r _ [7] (by decide +kernel) (by decide +kernel)
set_option maxRecDepth 20000 in
theorem gX3_isKnown_X3_isMark : GoodIn wsX3_isKnown (va_wsS RX3 13 yX3_isMark wsX3_isMark) := goodIn_app (goodIn_of _ (by decide +kernel)) ggX3_isKnown_X3_isMark
theorem dX3_isKnown_0 : decode cX3_isKnown 0 = .ok (.iload_n 0, 1) := by decide +kernel
theorem dX3_isKnown_1 : decode cX3_isKnown 1 = .ok (.invokestatic 7, 3) := by decide +kernel
theorem dX3_isKnown_4 : decode cX3_isKnown 4 = .ok (.ifCond .ne 10, 3) := by decide +kernel
theorem dX3_isKnown_7 : decode cX3_isKnown 7 = .ok (.iload_n 0, 1) := by decide +kernel
theorem dX3_isKnown_8 : decode cX3_isKnown 8 = .ok (.invokestatic 13, 3) := by decide +kernel
theorem dX3_isKnown_11 : decode cX3_isKnown 11 = .ok (.ifCond .eq 7, 3) := by decide +kernel
theorem dX3_isKnown_14 : decode cX3_isKnown 14 = .ok (.iconst 1, 1) := by decide +kernel
theorem dX3_isKnown_15 : decode cX3_isKnown 15 = .ok (.goto 4, 3) := by decide +kernel
theorem dX3_isKnown_18 : decode cX3_isKnown 18 = .ok (.iconst 0, 1) := by decide +kernel
theorem dX3_isKnown_19 : decode cX3_isKnown 19 = .ok (.ireturn, 1) := by decide +kernel
theorem dX3_width_0 : decode cX3_width 0 = .ok (.iload_n 0, 1) := by decide +kernel
theorem dX3_width_1 : decode cX3_width 1 = .ok (.bipush 46, 2) := by decide +kernel
theorem dX3_width_3 : decode cX3_width 3 = .ok (.if_icmp .ne 5, 3) := by decide +kernel
theorem dX3_width_6 : decode cX3_width 6 = .ok (.iconst 2, 1) := by decide +kernel
theorem dX3_width_7 : decode cX3_width 7 = .ok (.ireturn, 1) := by decide +kernel
theorem dX3_width_8 : decode cX3_width 8 = .ok (.iload_n 0, 1) := by decide +kernel
theorem dX3_width_9 : decode cX3_width 9 = .ok (.bipush 45, 2) := by decide +kernel
theorem dX3_width_11 : decode cX3_width 11 = .ok (.if_icmp .ne 5, 3) := by decide +kernel
theorem dX3_width_14 : decode cX3_width 14 = .ok (.iconst 4, 1) := by decide +kernel
theorem dX3_width_15 : decode cX3_width 15 = .ok (.ireturn, 1) := by decide +kernel
theorem dX3_width_16 : decode cX3_width 16 = .ok (.iconst 3, 1) := by decide +kernel
theorem dX3_width_17 : decode cX3_width 17 = .ok (.iload_n 0, 1) := by decide +kernel
theorem dX3_width_18 : decode cX3_width 18 = .ok (.bipush 65, 2) := by decide +kernel
theorem dX3_width_20 : decode cX3_width 20 = .ok (.isub, 1) := by decide +kernel
theorem dX3_width_21 : decode cX3_width 21 = .ok (.iconst 5, 1) := by decide +kernel
theorem dX3_width_22 : decode cX3_width 22 = .ok (.imul, 1) := by decide +kernel
theorem dX3_width_23 : decode cX3_width 23 = .ok (.bipush 7, 2) := by decide +kernel
theorem dX3_width_25 : decode cX3_width 25 = .ok (.irem, 1) := by decide +kernel
theorem dX3_width_26 : decode cX3_width 26 = .ok (.iadd, 1) := by decide +kernel
theorem dX3_width_27 : decode cX3_width 27 = .ok (.ireturn, 1) := by decide +kernel
theorem dX3_openness_0 : decode cX3_openness 0 = .ok (.iload_n 0, 1) := by decide +kernel
theorem dX3_openness_1 : decode cX3_openness 1 = .ok (.bipush 46, 2) := by decide +kernel
theorem dX3_openness_3 : decode cX3_openness 3 = .ok (.if_icmp .eq 9, 3) := by decide +kernel
theorem dX3_openness_6 : decode cX3_openness 6 = .ok (.iload_n 0, 1) := by decide +kernel
theorem dX3_openness_7 : decode cX3_openness 7 = .ok (.bipush 45, 2) := by decide +kernel
theorem dX3_openness_9 : decode cX3_openness 9 = .ok (.if_icmp .ne 5, 3) := by decide +kernel
theorem dX3_openness_12 : decode cX3_openness 12 = .ok (.iconst 2, 1) := by decide +kernel
theorem dX3_openness_13 : decode cX3_openness 13 = .ok (.ireturn, 1) := by decide +kernel
theorem dX3_openness_14 : decode cX3_openness 14 = .ok (.iload_n 0, 1) := by decide +kernel
theorem dX3_openness_15 : decode cX3_openness 15 = .ok (.bipush 65, 2) := by decide +kernel
theorem dX3_openness_17 : decode cX3_openness 17 = .ok (.isub, 1) := by decide +kernel
theorem dX3_openness_18 : decode cX3_openness 18 = .ok (.iconst 3, 1) := by decide +kernel
theorem dX3_openness_19 : decode cX3_openness 19 = .ok (.irem, 1) := by decide +kernel
theorem dX3_openness_20 : decode cX3_openness 20 = .ok (.ireturn, 1) := by decide +kernel
theorem dX3_ink_0 : decode cX3_ink 0 = .ok (.iload_n 0, 1) := by decide +kernel
theorem dX3_ink_1 : decode cX3_ink 1 = .ok (.bipush 46, 2) := by decide +kernel
theorem dX3_ink_3 : decode cX3_ink 3 = .ok (.if_icmp .ne 5, 3) := by decide +kernel
theorem dX3_ink_6 : decode cX3_ink 6 = .ok (.iconst 1, 1) := by decide +kernel
theorem dX3_ink_7 : decode cX3_ink 7 = .ok (.ireturn, 1) := by decide +kernel
theorem dX3_ink_8 : decode cX3_ink 8 = .ok (.iload_n 0, 1) := by decide +kernel
theorem dX3_ink_9 : decode cX3_ink 9 = .ok (.bipush 45, 2) := by decide +kernel
theorem dX3_ink_11 : decode cX3_ink 11 = .ok (.if_icmp .ne 5, 3) := by decide +kernel
theorem dX3_ink_14 : decode cX3_ink 14 = .ok (.iconst 2, 1) := by decide +kernel
theorem dX3_ink_15 : decode cX3_ink 15 = .ok (.ireturn, 1) := by decide +kernel
theorem dX3_ink_16 : decode cX3_ink 16 = .ok (.iconst 1, 1) := by decide +kernel
theorem dX3_ink_17 : decode cX3_ink 17 = .ok (.iload_n 0, 1) := by decide +kernel
theorem dX3_ink_18 : decode cX3_ink 18 = .ok (.bipush 65, 2) := by decide +kernel
theorem dX3_ink_20 : decode cX3_ink 20 = .ok (.isub, 1) := by decide +kernel
theorem dX3_ink_21 : decode cX3_ink 21 = .ok (.iconst 3, 1) := by decide +kernel
theorem dX3_ink_22 : decode cX3_ink 22 = .ok (.imul, 1) := by decide +kernel
theorem dX3_ink_23 : decode cX3_ink 23 = .ok (.iconst 5, 1) := by decide +kernel
theorem dX3_ink_24 : decode cX3_ink 24 = .ok (.irem, 1) := by decide +kernel
theorem dX3_ink_25 : decode cX3_ink 25 = .ok (.iadd, 1) := by decide +kernel
theorem dX3_ink_26 : decode cX3_ink 26 = .ok (.ireturn, 1) := by decide +kernel
set_option maxRecDepth 20000 in
theorem ggX4_init_X1_init : GoodIn wsX4_init wsX1_init := goodIn_r _ [21, 22, 2, 3, 23, 24, 25, 26, 27, 35, 36, 37] (by decide +kernel) (by decide +kernel)
set_option maxRecDepth 20000 in
theorem gX4_init_X1_init_n11 : GoodIn wsX4_init (wsX1_init) := ggX4_init_X1_init
set_option maxRecDepth 20000 in
theorem ggX4_init_X2_init : GoodIn wsX4_init wsX2_init := goodIn_r _ [29, 30, 2, 3, 23, 31, 32, 25, 33, 34, 48, 49, 50, 51] (by decide +kernel) (by decide +kernel)
set_option maxRecDepth 20000 in
theorem gX4_init_X2_init_n20 : GoodIn wsX4_init (wsX2_init) := ggX4_init_X2_init
theorem dX4_init_0 : decode cX4_init 0 = .ok (.aload_n 0, 1) := by decide +kernel
theorem dX4_init_1 : decode cX4_init 1 = .ok (.invokespecial 3, 3) := by decide +kernel
theorem dX4_init_4 : decode cX4_init 4 = .ok (.aload_n 0, 1) := by decide +kernel
theorem dX4_init_5 : decode cX4_init 5 = .ok (.new 9, 3) := by decide +kernel
theorem dX4_init_8 : decode cX4_init 8 = .ok (.dup, 1) := by decide +kernel
theorem dX4_init_9 : decode cX4_init 9 = .ok (.invokespecial 11, 3) := by decide +kernel
theorem dX4_init_12 : decode cX4_init 12 = .ok (.putfield 12, 3) := by decide +kernel
theorem dX4_init_15 : decode cX4_init 15 = .ok (.aload_n 0, 1) := by decide +kernel
theorem dX4_init_16 : decode cX4_init 16 = .ok (.new 18, 3) := by decide +kernel
theorem dX4_init_19 : decode cX4_init 19 = .ok (.dup, 1) := by decide +kernel
theorem dX4_init_20 : decode cX4_init 20 = .ok (.invokespecial 20, 3) := by decide +kernel
theorem dX4_init_23 : decode cX4_init 23 = .ok (.putfield 21, 3) := by decide +kernel
theorem dX4_init_26 : decode cX4_init 26 = .ok (.aload_n 0, 1) := by decide +kernel
theorem dX4_init_27 : decode cX4_init 27 = .ok (.sipush 2000, 3) := by decide +kernel
theorem dX4_init_30 : decode cX4_init 30 = .ok (.putfield 25, 3) := by decide +kernel
theorem dX4_init_33 : decode cX4_init 33 = .ok (.aload_n 0, 1) := by decide +kernel
theorem dX4_init_34 : decode cX4_init 34 = .ok (.sipush 1000, 3) := by decide +kernel
theorem dX4_init_37 : decode cX4_init 37 = .ok (.putfield 29, 3) := by decide +kernel
theorem dX4_init_40 : decode cX4_init 40 = .ok (.aload_n 0, 1) := by decide +kernel
theorem dX4_init_41 : decode cX4_init 41 = .ok (.bipush 20, 2) := by decide +kernel
theorem dX4_init_43 : decode cX4_init 43 = .ok (.putfield 32, 3) := by decide +kernel
theorem dX4_init_46 : decode cX4_init 46 = .ok (.aload_n 0, 1) := by decide +kernel
theorem dX4_init_47 : decode cX4_init 47 = .ok (.iconst 1, 1) := by decide +kernel
theorem dX4_init_48 : decode cX4_init 48 = .ok (.putfield 35, 3) := by decide +kernel
theorem dX4_init_51 : decode cX4_init 51 = .ok (.aload_n 0, 1) := by decide +kernel
theorem dX4_init_52 : decode cX4_init 52 = .ok (.iconst 0, 1) := by decide +kernel
theorem dX4_init_53 : decode cX4_init 53 = .ok (.putfield 38, 3) := by decide +kernel
theorem dX4_init_56 : decode cX4_init 56 = .ok (.aload_n 0, 1) := by decide +kernel
theorem dX4_init_57 : decode cX4_init 57 = .ok (.iconst 0, 1) := by decide +kernel
theorem dX4_init_58 : decode cX4_init 58 = .ok (.putfield 41, 3) := by decide +kernel
theorem dX4_init_61 : decode cX4_init 61 = .ok (.aload_n 0, 1) := by decide +kernel
theorem dX4_init_62 : decode cX4_init 62 = .ok (.iconst 0, 1) := by decide +kernel
theorem dX4_init_63 : decode cX4_init 63 = .ok (.putfield 44, 3) := by decide +kernel
theorem dX4_init_66 : decode cX4_init 66 = .ok (.aload_n 0, 1) := by decide +kernel
theorem dX4_init_67 : decode cX4_init 67 = .ok (.iconst 0, 1) := by decide +kernel
theorem dX4_init_68 : decode cX4_init 68 = .ok (.putfield 47, 3) := by decide +kernel
theorem dX4_init_71 : decode cX4_init 71 = .ok (.return_, 1) := by decide +kernel
set_option maxRecDepth 20000 in
theorem ggX4_copyFrom_X1_copyFrom : GoodIn wsX4_copyFrom wsX1_copyFrom := goodIn_r _ [15, 16, 17, 18, 19, 20, 21, 22, 43, 44, 45] (by decide +kernel) (by decide +kernel)
set_option maxRecDepth 20000 in
theorem gX4_copyFrom_X1_copyFrom : GoodIn wsX4_copyFrom (wsV RX4 50 RX1 yX1_copyFrom wsX1_copyFrom) := goodIn_app (goodIn_of _ (by decide +kernel)) ggX4_copyFrom_X1_copyFrom
set_option maxRecDepth 20000 in
theorem ggX4_copyFrom_X2_copyFrom : GoodIn wsX4_copyFrom wsX2_copyFrom := goodIn_r _ [27, 28, 29, 18, 19, 20, 30, 31, 32, 46, 47, 48, 49] (by decide +kernel) (by decide +kernel)
set_option maxRecDepth 20000 in
theorem gX4_copyFrom_X2_copyFrom : GoodIn wsX4_copyFrom (wsV RX4 54 RX2 yX2_copyFrom wsX2_copyFrom) := goodIn_app (goodIn_of _ (by decide +kernel)) ggX4_copyFrom_X2_copyFrom
theorem dX4_copyFrom_0 : decode cX4_copyFrom 0 = .ok (.aload_n 0, 1) := by decide +kernel
theorem dX4_copyFrom_1 : decode cX4_copyFrom 1 = .ok (.getfield 12, 3) := by decide +kernel
theorem dX4_copyFrom_4 : decode cX4_copyFrom 4 = .ok (.aload_n 1, 1) := by decide +kernel
theorem dX4_copyFrom_5 : decode cX4_copyFrom 5 = .ok (.getfield 12, 3) := by decide +kernel
theorem dX4_copyFrom_8 : decode cX4_copyFrom 8 = .ok (.invokevirtual 50, 3) := by decide +kernel
theorem dX4_copyFrom_11 : decode cX4_copyFrom 11 = .ok (.aload_n 0, 1) := by decide +kernel
theorem dX4_copyFrom_12 : decode cX4_copyFrom 12 = .ok (.getfield 21, 3) := by decide +kernel
theorem dX4_copyFrom_15 : decode cX4_copyFrom 15 = .ok (.aload_n 1, 1) := by decide +kernel
theorem dX4_copyFrom_16 : decode cX4_copyFrom 16 = .ok (.getfield 21, 3) := by decide +kernel
theorem dX4_copyFrom_19 : decode cX4_copyFrom 19 = .ok (.invokevirtual 54, 3) := by decide +kernel
theorem dX4_copyFrom_22 : decode cX4_copyFrom 22 = .ok (.aload_n 0, 1) := by decide +kernel
theorem dX4_copyFrom_23 : decode cX4_copyFrom 23 = .ok (.aload_n 1, 1) := by decide +kernel
theorem dX4_copyFrom_24 : decode cX4_copyFrom 24 = .ok (.getfield 25, 3) := by decide +kernel
theorem dX4_copyFrom_27 : decode cX4_copyFrom 27 = .ok (.putfield 25, 3) := by decide +kernel
theorem dX4_copyFrom_30 : decode cX4_copyFrom 30 = .ok (.aload_n 0, 1) := by decide +kernel
theorem dX4_copyFrom_31 : decode cX4_copyFrom 31 = .ok (.aload_n 1, 1) := by decide +kernel
theorem dX4_copyFrom_32 : decode cX4_copyFrom 32 = .ok (.getfield 29, 3) := by decide +kernel
theorem dX4_copyFrom_35 : decode cX4_copyFrom 35 = .ok (.putfield 29, 3) := by decide +kernel
theorem dX4_copyFrom_38 : decode cX4_copyFrom 38 = .ok (.aload_n 0, 1) := by decide +kernel
theorem dX4_copyFrom_39 : decode cX4_copyFrom 39 = .ok (.aload_n 1, 1) := by decide +kernel
theorem dX4_copyFrom_40 : decode cX4_copyFrom 40 = .ok (.getfield 32, 3) := by decide +kernel
theorem dX4_copyFrom_43 : decode cX4_copyFrom 43 = .ok (.putfield 32, 3) := by decide +kernel
theorem dX4_copyFrom_46 : decode cX4_copyFrom 46 = .ok (.aload_n 0, 1) := by decide +kernel
theorem dX4_copyFrom_47 : decode cX4_copyFrom 47 = .ok (.aload_n 1, 1) := by decide +kernel
theorem dX4_copyFrom_48 : decode cX4_copyFrom 48 = .ok (.getfield 35, 3) := by decide +kernel
theorem dX4_copyFrom_51 : decode cX4_copyFrom 51 = .ok (.putfield 35, 3) := by decide +kernel
theorem dX4_copyFrom_54 : decode cX4_copyFrom 54 = .ok (.aload_n 0, 1) := by decide +kernel
theorem dX4_copyFrom_55 : decode cX4_copyFrom 55 = .ok (.aload_n 1, 1) := by decide +kernel
theorem dX4_copyFrom_56 : decode cX4_copyFrom 56 = .ok (.getfield 38, 3) := by decide +kernel
theorem dX4_copyFrom_59 : decode cX4_copyFrom 59 = .ok (.putfield 38, 3) := by decide +kernel
theorem dX4_copyFrom_62 : decode cX4_copyFrom 62 = .ok (.aload_n 0, 1) := by decide +kernel
theorem dX4_copyFrom_63 : decode cX4_copyFrom 63 = .ok (.aload_n 1, 1) := by decide +kernel
theorem dX4_copyFrom_64 : decode cX4_copyFrom 64 = .ok (.getfield 41, 3) := by decide +kernel
theorem dX4_copyFrom_67 : decode cX4_copyFrom 67 = .ok (.putfield 41, 3) := by decide +kernel
theorem dX4_copyFrom_70 : decode cX4_copyFrom 70 = .ok (.aload_n 0, 1) := by decide +kernel
theorem dX4_copyFrom_71 : decode cX4_copyFrom 71 = .ok (.aload_n 1, 1) := by decide +kernel
theorem dX4_copyFrom_72 : decode cX4_copyFrom 72 = .ok (.getfield 44, 3) := by decide +kernel
theorem dX4_copyFrom_75 : decode cX4_copyFrom 75 = .ok (.putfield 44, 3) := by decide +kernel
theorem dX4_copyFrom_78 : decode cX4_copyFrom 78 = .ok (.aload_n 0, 1) := by decide +kernel
theorem dX4_copyFrom_79 : decode cX4_copyFrom 79 = .ok (.aload_n 1, 1) := by decide +kernel
theorem dX4_copyFrom_80 : decode cX4_copyFrom 80 = .ok (.getfield 47, 3) := by decide +kernel
theorem dX4_copyFrom_83 : decode cX4_copyFrom 83 = .ok (.putfield 47, 3) := by decide +kernel
theorem dX4_copyFrom_86 : decode cX4_copyFrom 86 = .ok (.return_, 1) := by decide +kernel
set_option maxRecDepth 20000 in
theorem ggX4_cutAnew_X4_engravedNames : GoodIn wsX4_cutAnew wsX4_engravedNames := goodIn_r _ [10, 3, 11, 12, 13, 14, 15, 16, 17, 18, 19, 20, 21, 22, 23, 24, 25, 26, 27] (by decide +kernel) (by decide +kernel)
set_option maxRecDepth 20000 in
theorem gX4_cutAnew_X4_engravedNames : GoodIn wsX4_cutAnew (wsV RX4 57 RX4 yX4_engravedNames wsX4_engravedNames) := goodIn_app (goodIn_of _ (by decide +kernel)) ggX4_cutAnew_X4_engravedNames
theorem dX4_cutAnew_0 : decode cX4_cutAnew 0 = .ok (.aload_n 0, 1) := by decide +kernel
theorem dX4_cutAnew_1 : decode cX4_cutAnew 1 = .ok (.invokevirtual 57, 3) := by decide +kernel
theorem dX4_cutAnew_4 : decode cX4_cutAnew 4 = .ok (.istore_n 3, 1) := by decide +kernel
theorem dX4_cutAnew_5 : decode cX4_cutAnew 5 = .ok (.aload_n 0, 1) := by decide +kernel
theorem dX4_cutAnew_6 : decode cX4_cutAnew 6 = .ok (.iload_n 1, 1) := by decide +kernel
theorem dX4_cutAnew_7 : decode cX4_cutAnew 7 = .ok (.putfield 25, 3) := by decide +kernel
theorem dX4_cutAnew_10 : decode cX4_cutAnew 10 = .ok (.aload_n 0, 1) := by decide +kernel
theorem dX4_cutAnew_11 : decode cX4_cutAnew 11 = .ok (.iload_n 2, 1) := by decide +kernel
theorem dX4_cutAnew_12 : decode cX4_cutAnew 12 = .ok (.putfield 29, 3) := by decide +kernel
theorem dX4_cutAnew_15 : decode cX4_cutAnew 15 = .ok (.aload_n 0, 1) := by decide +kernel
theorem dX4_cutAnew_16 : decode cX4_cutAnew 16 = .ok (.iconst 0, 1) := by decide +kernel
theorem dX4_cutAnew_17 : decode cX4_cutAnew 17 = .ok (.putfield 38, 3) := by decide +kernel
theorem dX4_cutAnew_20 : decode cX4_cutAnew 20 = .ok (.aload_n 0, 1) := by decide +kernel
theorem dX4_cutAnew_21 : decode cX4_cutAnew 21 = .ok (.dup, 1) := by decide +kernel
theorem dX4_cutAnew_22 : decode cX4_cutAnew 22 = .ok (.getfield 44, 3) := by decide +kernel
theorem dX4_cutAnew_25 : decode cX4_cutAnew 25 = .ok (.iconst 1, 1) := by decide +kernel
theorem dX4_cutAnew_26 : decode cX4_cutAnew 26 = .ok (.iadd, 1) := by decide +kernel
theorem dX4_cutAnew_27 : decode cX4_cutAnew 27 = .ok (.putfield 44, 3) := by decide +kernel
theorem dX4_cutAnew_30 : decode cX4_cutAnew 30 = .ok (.aload_n 0, 1) := by decide +kernel
theorem dX4_cutAnew_31 : decode cX4_cutAnew 31 = .ok (.dup, 1) := by decide +kernel
theorem dX4_cutAnew_32 : decode cX4_cutAnew 32 = .ok (.getfield 47, 3) := by decide +kernel
theorem dX4_cutAnew_35 : decode cX4_cutAnew 35 = .ok (.iload_n 3, 1) := by decide +kernel
theorem dX4_cutAnew_36 : decode cX4_cutAnew 36 = .ok (.iadd, 1) := by decide +kernel
theorem dX4_cutAnew_37 : decode cX4_cutAnew 37 = .ok (.putfield 47, 3) := by decide +kernel
theorem dX4_cutAnew_40 : decode cX4_cutAnew 40 = .ok (.iload_n 3, 1) := by decide +kernel
theorem dX4_cutAnew_41 : decode cX4_cutAnew 41 = .ok (.ireturn, 1) := by decide +kernel
theorem dX4_hasEngraved_0 : decode cX4_hasEngraved 0 = .ok (.aload_n 0, 1) := by decide +kernel
theorem dX4_hasEngraved_1 : decode cX4_hasEngraved 1 = .ok (.getfield 38, 3) := by decide +kernel
theorem dX4_hasEngraved_4 : decode cX4_hasEngraved 4 = .ok (.ifCond .eq 7, 3) := by decide +kernel
theorem dX4_hasEngraved_7 : decode cX4_hasEngraved 7 = .ok (.iconst 1, 1) := by decide +kernel
theorem dX4_hasEngraved_8 : decode cX4_hasEngraved 8 = .ok (.goto 4, 3) := by decide +kernel
theorem dX4_hasEngraved_11 : decode cX4_hasEngraved 11 = .ok (.iconst 0, 1) := by decide +kernel
theorem dX4_hasEngraved_12 : decode cX4_hasEngraved 12 = .ok (.ireturn, 1) := by decide +kernel
set_option maxRecDepth 20000 in
theorem ggX4_engravedNames_J6_bitCount_0f7a4 : GoodIn wsX4_engravedNames wsJ6_bitCount_0f7a4 := goodIn_r _ [5, 6, 7, 8] (by decide +kernel) (by decide +kernel)
set_option maxRecDepth 20000 in
theorem gX4_engravedNames_J6_bitCount_0f7a4 : GoodIn wsX4_engravedNames (va_wsS RX4 61 yJ6_bitCount_0f7a4 wsJ6_bitCount_0f7a4) := goodIn_app (goodIn_of _ (by decide +kernel)) ggX4_engravedNames_J6_bitCount_0f7a4
theorem dX4_engravedNames_0 : decode cX4_engravedNames 0 = .ok (.aload_n 0, 1) := by decide +kernel
theorem dX4_engravedNames_1 : decode cX4_engravedNames 1 = .ok (.getfield 38, 3) := by decide +kernel
theorem dX4_engravedNames_4 : decode cX4_engravedNames 4 = .ok (.invokestatic 61, 3) := by decide +kernel
theorem dX4_engravedNames_7 : decode cX4_engravedNames 7 = .ok (.ireturn, 1) := by decide +kernel
theorem dX4_isEngraved_0 : decode cX4_isEngraved 0 = .ok (.aload_n 0, 1) := by decide +kernel
theorem dX4_isEngraved_1 : decode cX4_isEngraved 1 = .ok (.getfield 38, 3) := by decide +kernel
theorem dX4_isEngraved_4 : decode cX4_isEngraved 4 = .ok (.iload_n 1, 1) := by decide +kernel
theorem dX4_isEngraved_5 : decode cX4_isEngraved 5 = .ok (.ishr, 1) := by decide +kernel
theorem dX4_isEngraved_6 : decode cX4_isEngraved 6 = .ok (.iconst 1, 1) := by decide +kernel
theorem dX4_isEngraved_7 : decode cX4_isEngraved 7 = .ok (.iand, 1) := by decide +kernel
theorem dX4_isEngraved_8 : decode cX4_isEngraved 8 = .ok (.ifCond .eq 7, 3) := by decide +kernel
theorem dX4_isEngraved_11 : decode cX4_isEngraved 11 = .ok (.iconst 1, 1) := by decide +kernel
theorem dX4_isEngraved_12 : decode cX4_isEngraved 12 = .ok (.goto 4, 3) := by decide +kernel
theorem dX4_isEngraved_15 : decode cX4_isEngraved 15 = .ok (.iconst 0, 1) := by decide +kernel
theorem dX4_isEngraved_16 : decode cX4_isEngraved 16 = .ok (.ireturn, 1) := by decide +kernel
theorem dX4_isEngravedFrom_0 : decode cX4_isEngravedFrom 0 = .ok (.aload_n 0, 1) := by decide +kernel
theorem dX4_isEngravedFrom_1 : decode cX4_isEngravedFrom 1 = .ok (.getfield 38, 3) := by decide +kernel
theorem dX4_isEngravedFrom_4 : decode cX4_isEngravedFrom 4 = .ok (.iload_n 1, 1) := by decide +kernel
theorem dX4_isEngravedFrom_5 : decode cX4_isEngravedFrom 5 = .ok (.ishr, 1) := by decide +kernel
theorem dX4_isEngravedFrom_6 : decode cX4_isEngravedFrom 6 = .ok (.ifCond .eq 7, 3) := by decide +kernel
theorem dX4_isEngravedFrom_9 : decode cX4_isEngravedFrom 9 = .ok (.iconst 1, 1) := by decide +kernel
theorem dX4_isEngravedFrom_10 : decode cX4_isEngravedFrom 10 = .ok (.goto 4, 3) := by decide +kernel
theorem dX4_isEngravedFrom_13 : decode cX4_isEngravedFrom 13 = .ok (.iconst 0, 1) := by decide +kernel
theorem dX4_isEngravedFrom_14 : decode cX4_isEngravedFrom 14 = .ok (.ireturn, 1) := by decide +kernel
set_option maxRecDepth 20000 in
theorem ggX4_engravableSeats_X4_isEngraved : GoodIn wsX4_engravableSeats wsX4_isEngraved := goodIn_r _ [6, 7, 79, 80, 81, 82, 83, 84, 85, 86, 87, 88] (by decide +kernel) (by decide +kernel)
set_option maxRecDepth 20000 in
theorem gX4_engravableSeats_X4_isEngraved : GoodIn wsX4_engravableSeats (wsV RX4 70 RX4 yX4_isEngraved wsX4_isEngraved) := goodIn_app (goodIn_of _ (by decide +kernel)) ggX4_engravableSeats_X4_isEngraved
set_option maxRecDepth 20000 in
theorem ggX4_engravableSeats_X4_fits : GoodIn wsX4_engravableSeats wsX4_fits := goodIn_r _ [11, 12, 13, 14, 15, 16, 17, 5, 18, 1, 19, 20, 21, 22, 23, 24, 25, 26, 27, 28, 29, 30, 31, 32, 33, 34, 35, 36, 37, 38, 39, 40, 41, 42, 43, 44, 45, 46, 47, 48, 49, 50, 51, 52, 53, 54, 55, 56, 57, 58, 59, 60, 61, 62, 63, 64, 65, 66, 67, 68, 69, 70, 71, 72, 73, 74, 75, 76, 77, 78, 79, 80, 81, 82, 83, 84, 85, 86, 87, 88, 89, 90, 91, 92, 93, 94, 95] (by decide +kernel) (by decide +kernel)
set_option maxRecDepth 20000 in
theorem gX4_engravableSeats_X4_fits : GoodIn wsX4_engravableSeats (wsV RX4 74 RX4 yX4_fits wsX4_fits) := goodIn_app (goodIn_of _ (by decide +kernel)) ggX4_engravableSeats_X4_fits
theorem dX4_engravableSeats_0 : decode cX4_engravableSeats 0 = .ok (.iconst 0, 1) := by decide +kernel
theorem dX4_engravableSeats_1 : decode cX4_engravableSeats 1 = .ok (.istore_n 2, 1) := by decide +kernel
theorem dX4_engravableSeats_2 : decode cX4_engravableSeats 2 = .ok (.iconst 0, 1) := by decide +kernel
theorem dX4_engravableSeats_3 : decode cX4_engravableSeats 3 = .ok (.istore_n 3, 1) := by decide +kernel
theorem dX4_engravableSeats_4 : decode cX4_engravableSeats 4 = .ok (.iload_n 3, 1) := by decide +kernel
theorem dX4_engravableSeats_5 : decode cX4_engravableSeats 5 = .ok (.aload_n 0, 1) := by decide +kernel
theorem dX4_engravableSeats_6 : decode cX4_engravableSeats 6 = .ok (.getfield 12, 3) := by decide +kernel
theorem dX4_engravableSeats_9 : decode cX4_engravableSeats 9 = .ok (.getfield 67, 3) := by decide +kernel
theorem dX4_engravableSeats_12 : decode cX4_engravableSeats 12 = .ok (.if_icmp .ge 32, 3) := by decide +kernel
theorem dX4_engravableSeats_15 : decode cX4_engravableSeats 15 = .ok (.aload_n 0, 1) := by decide +kernel
theorem dX4_engravableSeats_16 : decode cX4_engravableSeats 16 = .ok (.iload_n 3, 1) := by decide +kernel
theorem dX4_engravableSeats_17 : decode cX4_engravableSeats 17 = .ok (.invokevirtual 70, 3) := by decide +kernel
theorem dX4_engravableSeats_20 : decode cX4_engravableSeats 20 = .ok (.ifCond .ne 18, 3) := by decide +kernel
theorem dX4_engravableSeats_23 : decode cX4_engravableSeats 23 = .ok (.aload_n 0, 1) := by decide +kernel
theorem dX4_engravableSeats_24 : decode cX4_engravableSeats 24 = .ok (.iload_n 3, 1) := by decide +kernel
theorem dX4_engravableSeats_25 : decode cX4_engravableSeats 25 = .ok (.iload_n 1, 1) := by decide +kernel
theorem dX4_engravableSeats_26 : decode cX4_engravableSeats 26 = .ok (.invokevirtual 74, 3) := by decide +kernel
theorem dX4_engravableSeats_29 : decode cX4_engravableSeats 29 = .ok (.ifCond .eq 9, 3) := by decide +kernel
theorem dX4_engravableSeats_32 : decode cX4_engravableSeats 32 = .ok (.iload_n 2, 1) := by decide +kernel
theorem dX4_engravableSeats_33 : decode cX4_engravableSeats 33 = .ok (.iconst 1, 1) := by decide +kernel
theorem dX4_engravableSeats_34 : decode cX4_engravableSeats 34 = .ok (.iload_n 3, 1) := by decide +kernel
theorem dX4_engravableSeats_35 : decode cX4_engravableSeats 35 = .ok (.ishl, 1) := by decide +kernel
theorem dX4_engravableSeats_36 : decode cX4_engravableSeats 36 = .ok (.ior, 1) := by decide +kernel
theorem dX4_engravableSeats_37 : decode cX4_engravableSeats 37 = .ok (.istore_n 2, 1) := by decide +kernel
theorem dX4_engravableSeats_38 : decode cX4_engravableSeats 38 = .ok (.iinc 3 1, 3) := by decide +kernel
theorem dX4_engravableSeats_41 : decode cX4_engravableSeats 41 = .ok (.goto (-37), 3) := by decide +kernel
theorem dX4_engravableSeats_44 : decode cX4_engravableSeats 44 = .ok (.iload_n 2, 1) := by decide +kernel
theorem dX4_engravableSeats_45 : decode cX4_engravableSeats 45 = .ok (.ireturn, 1) := by decide +kernel
theorem dX4_markEngraved_0 : decode cX4_markEngraved 0 = .ok (.aload_n 0, 1) := by decide +kernel
theorem dX4_markEngraved_1 : decode cX4_markEngraved 1 = .ok (.dup, 1) := by decide +kernel
theorem dX4_markEngraved_2 : decode cX4_markEngraved 2 = .ok (.getfield 38, 3) := by decide +kernel
theorem dX4_markEngraved_5 : decode cX4_markEngraved 5 = .ok (.iload_n 1, 1) := by decide +kernel
theorem dX4_markEngraved_6 : decode cX4_markEngraved 6 = .ok (.ior, 1) := by decide +kernel
theorem dX4_markEngraved_7 : decode cX4_markEngraved 7 = .ok (.putfield 38, 3) := by decide +kernel
theorem dX4_markEngraved_10 : decode cX4_markEngraved 10 = .ok (.aload_n 0, 1) := by decide +kernel
theorem dX4_markEngraved_11 : decode cX4_markEngraved 11 = .ok (.iload_n 2, 1) := by decide +kernel
theorem dX4_markEngraved_12 : decode cX4_markEngraved 12 = .ok (.putfield 41, 3) := by decide +kernel
theorem dX4_markEngraved_15 : decode cX4_markEngraved 15 = .ok (.return_, 1) := by decide +kernel
set_option maxRecDepth 20000 in
theorem ggX4_isEngravedPair_X4_isEngraved : GoodIn wsX4_isEngravedPair wsX4_isEngraved := goodIn_r _ [6, 7, 23, 24, 25, 26, 27, 28, 29, 30, 31, 32] (by decide +kernel) (by decide +kernel)
set_option maxRecDepth 20000 in
theorem gX4_isEngravedPair_X4_isEngraved : GoodIn wsX4_isEngravedPair (wsV RX4 70 RX4 yX4_isEngraved wsX4_isEngraved) := goodIn_app (goodIn_of _ (by decide +kernel)) ggX4_isEngravedPair_X4_isEngraved
set_option maxRecDepth 20000 in
theorem ggX4_isEngravedPair_X4_hasPair : GoodIn wsX4_isEngravedPair wsX4_hasPair := goodIn_r _ [11, 1, 12, 13, 14, 15, 16, 17, 18, 19, 20, 21, 22, 23, 24, 25, 26, 27, 28, 29, 30, 31, 32, 33, 34, 35] (by decide +kernel) (by decide +kernel)
set_option maxRecDepth 20000 in
theorem gX4_isEngravedPair_X4_hasPair : GoodIn wsX4_isEngravedPair (wsV RX4 78 RX4 yX4_hasPair wsX4_hasPair) := goodIn_app (goodIn_of _ (by decide +kernel)) ggX4_isEngravedPair_X4_hasPair
theorem dX4_isEngravedPair_0 : decode cX4_isEngravedPair 0 = .ok (.iconst 0, 1) := by decide +kernel
theorem dX4_isEngravedPair_1 : decode cX4_isEngravedPair 1 = .ok (.istore_n 3, 1) := by decide +kernel
theorem dX4_isEngravedPair_2 : decode cX4_isEngravedPair 2 = .ok (.iload_n 3, 1) := by decide +kernel
theorem dX4_isEngravedPair_3 : decode cX4_isEngravedPair 3 = .ok (.aload_n 0, 1) := by decide +kernel
theorem dX4_isEngravedPair_4 : decode cX4_isEngravedPair 4 = .ok (.getfield 12, 3) := by decide +kernel
theorem dX4_isEngravedPair_7 : decode cX4_isEngravedPair 7 = .ok (.getfield 67, 3) := by decide +kernel
theorem dX4_isEngravedPair_10 : decode cX4_isEngravedPair 10 = .ok (.if_icmp .ge 29, 3) := by decide +kernel
theorem dX4_isEngravedPair_13 : decode cX4_isEngravedPair 13 = .ok (.aload_n 0, 1) := by decide +kernel
theorem dX4_isEngravedPair_14 : decode cX4_isEngravedPair 14 = .ok (.iload_n 3, 1) := by decide +kernel
theorem dX4_isEngravedPair_15 : decode cX4_isEngravedPair 15 = .ok (.invokevirtual 70, 3) := by decide +kernel
theorem dX4_isEngravedPair_18 : decode cX4_isEngravedPair 18 = .ok (.ifCond .eq 15, 3) := by decide +kernel
theorem dX4_isEngravedPair_21 : decode cX4_isEngravedPair 21 = .ok (.aload_n 0, 1) := by decide +kernel
theorem dX4_isEngravedPair_22 : decode cX4_isEngravedPair 22 = .ok (.iload_n 3, 1) := by decide +kernel
theorem dX4_isEngravedPair_23 : decode cX4_isEngravedPair 23 = .ok (.iload_n 1, 1) := by decide +kernel
theorem dX4_isEngravedPair_24 : decode cX4_isEngravedPair 24 = .ok (.iload_n 2, 1) := by decide +kernel
theorem dX4_isEngravedPair_25 : decode cX4_isEngravedPair 25 = .ok (.invokevirtual 78, 3) := by decide +kernel
theorem dX4_isEngravedPair_28 : decode cX4_isEngravedPair 28 = .ok (.ifCond .eq 5, 3) := by decide +kernel
theorem dX4_isEngravedPair_31 : decode cX4_isEngravedPair 31 = .ok (.iconst 1, 1) := by decide +kernel
theorem dX4_isEngravedPair_32 : decode cX4_isEngravedPair 32 = .ok (.ireturn, 1) := by decide +kernel
theorem dX4_isEngravedPair_33 : decode cX4_isEngravedPair 33 = .ok (.iinc 3 1, 3) := by decide +kernel
theorem dX4_isEngravedPair_36 : decode cX4_isEngravedPair 36 = .ok (.goto (-34), 3) := by decide +kernel
theorem dX4_isEngravedPair_39 : decode cX4_isEngravedPair 39 = .ok (.iconst 0, 1) := by decide +kernel
theorem dX4_isEngravedPair_40 : decode cX4_isEngravedPair 40 = .ok (.ireturn, 1) := by decide +kernel
set_option maxRecDepth 20000 in
theorem ggX4_hasPair_X1_lengthOf : GoodIn wsX4_hasPair wsX1_lengthOf := goodIn_r _ [6, 7, 23, 24, 25] (by decide +kernel) (by decide +kernel)
set_option maxRecDepth 20000 in
theorem gX4_hasPair_X1_lengthOf : GoodIn wsX4_hasPair (wsV RX4 82 RX1 yX1_lengthOf wsX1_lengthOf) := goodIn_app (goodIn_of _ (by decide +kernel)) ggX4_hasPair_X1_lengthOf
set_option maxRecDepth 20000 in
theorem ggX4_hasPair_X1_codeAt : GoodIn wsX4_hasPair wsX1_codeAt := goodIn_r _ [11, 12, 23, 24, 25] (by decide +kernel) (by decide +kernel)
set_option maxRecDepth 20000 in
theorem gX4_hasPair_X1_codeAt : GoodIn wsX4_hasPair (wsV RX4 85 RX1 yX1_codeAt wsX1_codeAt) := goodIn_app (goodIn_of _ (by decide +kernel)) ggX4_hasPair_X1_codeAt
theorem dX4_hasPair_0 : decode cX4_hasPair 0 = .ok (.iconst 1, 1) := by decide +kernel
theorem dX4_hasPair_1 : decode cX4_hasPair 1 = .ok (.istore 4, 2) := by decide +kernel
theorem dX4_hasPair_3 : decode cX4_hasPair 3 = .ok (.iload 4, 2) := by decide +kernel
theorem dX4_hasPair_5 : decode cX4_hasPair 5 = .ok (.aload_n 0, 1) := by decide +kernel
theorem dX4_hasPair_6 : decode cX4_hasPair 6 = .ok (.getfield 12, 3) := by decide +kernel
theorem dX4_hasPair_9 : decode cX4_hasPair 9 = .ok (.iload_n 1, 1) := by decide +kernel
theorem dX4_hasPair_10 : decode cX4_hasPair 10 = .ok (.invokevirtual 82, 3) := by decide +kernel
theorem dX4_hasPair_13 : decode cX4_hasPair 13 = .ok (.if_icmp .ge 41, 3) := by decide +kernel
theorem dX4_hasPair_16 : decode cX4_hasPair 16 = .ok (.aload_n 0, 1) := by decide +kernel
theorem dX4_hasPair_17 : decode cX4_hasPair 17 = .ok (.getfield 12, 3) := by decide +kernel
theorem dX4_hasPair_20 : decode cX4_hasPair 20 = .ok (.iload_n 1, 1) := by decide +kernel
theorem dX4_hasPair_21 : decode cX4_hasPair 21 = .ok (.iload 4, 2) := by decide +kernel
theorem dX4_hasPair_23 : decode cX4_hasPair 23 = .ok (.iconst 1, 1) := by decide +kernel
theorem dX4_hasPair_24 : decode cX4_hasPair 24 = .ok (.isub, 1) := by decide +kernel
theorem dX4_hasPair_25 : decode cX4_hasPair 25 = .ok (.invokevirtual 85, 3) := by decide +kernel
theorem dX4_hasPair_28 : decode cX4_hasPair 28 = .ok (.iload_n 2, 1) := by decide +kernel
theorem dX4_hasPair_29 : decode cX4_hasPair 29 = .ok (.if_icmp .ne 19, 3) := by decide +kernel
theorem dX4_hasPair_32 : decode cX4_hasPair 32 = .ok (.aload_n 0, 1) := by decide +kernel
theorem dX4_hasPair_33 : decode cX4_hasPair 33 = .ok (.getfield 12, 3) := by decide +kernel
theorem dX4_hasPair_36 : decode cX4_hasPair 36 = .ok (.iload_n 1, 1) := by decide +kernel
theorem dX4_hasPair_37 : decode cX4_hasPair 37 = .ok (.iload 4, 2) := by decide +kernel
theorem dX4_hasPair_39 : decode cX4_hasPair 39 = .ok (.invokevirtual 85, 3) := by decide +kernel
theorem dX4_hasPair_42 : decode cX4_hasPair 42 = .ok (.iload_n 3, 1) := by decide +kernel
theorem dX4_hasPair_43 : decode cX4_hasPair 43 = .ok (.if_icmp .ne 5, 3) := by decide +kernel
theorem dX4_hasPair_46 : decode cX4_hasPair 46 = .ok (.iconst 1, 1) := by decide +kernel
theorem dX4_hasPair_47 : decode cX4_hasPair 47 = .ok (.ireturn, 1) := by decide +kernel
theorem dX4_hasPair_48 : decode cX4_hasPair 48 = .ok (.iinc 4 1, 3) := by decide +kernel
theorem dX4_hasPair_51 : decode cX4_hasPair 51 = .ok (.goto (-48), 3) := by decide +kernel
theorem dX4_hasPair_54 : decode cX4_hasPair 54 = .ok (.iconst 0, 1) := by decide +kernel
theorem dX4_hasPair_55 : decode cX4_hasPair 55 = .ok (.ireturn, 1) := by decide +kernel
set_option maxRecDepth 20000 in
theorem ggX4_adjustmentOf_X2_placeOf : GoodIn wsX4_adjustmentOf wsX2_placeOf := goodIn_r _ [6, 7, 8, 9, 25, 26, 27, 28] (by decide +kernel) (by decide +kernel)
set_option maxRecDepth 20000 in
theorem gX4_adjustmentOf_X2_placeOf : GoodIn wsX4_adjustmentOf (wsV RX4 89 RX2 yX2_placeOf wsX2_placeOf) := goodIn_app (goodIn_of _ (by decide +kernel)) ggX4_adjustmentOf_X2_placeOf
set_option maxRecDepth 20000 in
theorem ggX4_adjustmentOf_X2_adjustmentAt : GoodIn wsX4_adjustmentOf wsX2_adjustmentAt := goodIn_r _ [13, 7, 14, 25, 26, 27, 28] (by decide +kernel) (by decide +kernel)
set_option maxRecDepth 20000 in
theorem gX4_adjustmentOf_X2_adjustmentAt : GoodIn wsX4_adjustmentOf (wsV RX4 93 RX2 yX2_adjustmentAt wsX2_adjustmentAt) := goodIn_app (goodIn_of _ (by decide +kernel)) ggX4_adjustmentOf_X2_adjustmentAt
theorem dX4_adjustmentOf_0 : decode cX4_adjustmentOf 0 = .ok (.aload_n 0, 1) := by decide +kernel
theorem dX4_adjustmentOf_1 : decode cX4_adjustmentOf 1 = .ok (.getfield 21, 3) := by decide +kernel
theorem dX4_adjustmentOf_4 : decode cX4_adjustmentOf 4 = .ok (.aload_n 0, 1) := by decide +kernel
theorem dX4_adjustmentOf_5 : decode cX4_adjustmentOf 5 = .ok (.getfield 21, 3) := by decide +kernel
theorem dX4_adjustmentOf_8 : decode cX4_adjustmentOf 8 = .ok (.iload_n 1, 1) := by decide +kernel
theorem dX4_adjustmentOf_9 : decode cX4_adjustmentOf 9 = .ok (.iload_n 2, 1) := by decide +kernel
theorem dX4_adjustmentOf_10 : decode cX4_adjustmentOf 10 = .ok (.invokevirtual 89, 3) := by decide +kernel
theorem dX4_adjustmentOf_13 : decode cX4_adjustmentOf 13 = .ok (.invokevirtual 93, 3) := by decide +kernel
theorem dX4_adjustmentOf_16 : decode cX4_adjustmentOf 16 = .ok (.ireturn, 1) := by decide +kernel
set_option maxRecDepth 20000 in
theorem ggX4_spaceBehind_X1_lengthOf : GoodIn wsX4_spaceBehind wsX1_lengthOf := goodIn_r _ [11, 12, 45, 46, 47] (by decide +kernel) (by decide +kernel)
set_option maxRecDepth 20000 in
theorem gX4_spaceBehind_X1_lengthOf : GoodIn wsX4_spaceBehind (wsV RX4 82 RX1 yX1_lengthOf wsX1_lengthOf) := goodIn_app (goodIn_of _ (by decide +kernel)) ggX4_spaceBehind_X1_lengthOf
set_option maxRecDepth 20000 in
theorem ggX4_spaceBehind_X1_codeAt : GoodIn wsX4_spaceBehind wsX1_codeAt := goodIn_r _ [16, 17, 45, 46, 47] (by decide +kernel) (by decide +kernel)
set_option maxRecDepth 20000 in
theorem gX4_spaceBehind_X1_codeAt : GoodIn wsX4_spaceBehind (wsV RX4 85 RX1 yX1_codeAt wsX1_codeAt) := goodIn_app (goodIn_of _ (by decide +kernel)) ggX4_spaceBehind_X1_codeAt
set_option maxRecDepth 20000 in
theorem ggX4_spaceBehind_X2_placeOf : GoodIn wsX4_spaceBehind wsX2_placeOf := goodIn_r _ [22, 23, 24, 25, 48, 49, 50, 51] (by decide +kernel) (by decide +kernel)
set_option maxRecDepth 20000 in
theorem gX4_spaceBehind_X2_placeOf : GoodIn wsX4_spaceBehind (wsV RX4 89 RX2 yX2_placeOf wsX2_placeOf) := goodIn_app (goodIn_of _ (by decide +kernel)) ggX4_spaceBehind_X2_placeOf
set_option maxRecDepth 20000 in
theorem ggX4_spaceBehind_X2_adjustmentAt : GoodIn wsX4_spaceBehind wsX2_adjustmentAt := goodIn_r _ [29, 23, 30, 48, 49, 50, 51] (by decide +kernel) (by decide +kernel)
set_option maxRecDepth 20000 in
theorem gX4_spaceBehind_X2_adjustmentAt : GoodIn wsX4_spaceBehind (wsV RX4 93 RX2 yX2_adjustmentAt wsX2_adjustmentAt) := goodIn_app (goodIn_of _ (by decide +kernel)) ggX4_spaceBehind_X2_adjustmentAt
set_option maxRecDepth 20000 in
theorem ggX4_spaceBehind_X3_openness : GoodIn wsX4_spaceBehind wsX3_openness := goodIn_r _ [34] (by decide +kernel) (by decide +kernel)
set_option maxRecDepth 20000 in
theorem gX4_spaceBehind_X3_openness : GoodIn wsX4_spaceBehind (va_wsS RX4 96 yX3_openness wsX3_openness) := goodIn_app (goodIn_of _ (by decide +kernel)) ggX4_spaceBehind_X3_openness
theorem dX4_spaceBehind_0 : decode cX4_spaceBehind 0 = .ok (.iload_n 2, 1) := by decide +kernel
theorem dX4_spaceBehind_1 : decode cX4_spaceBehind 1 = .ok (.iconst 1, 1) := by decide +kernel
theorem dX4_spaceBehind_2 : decode cX4_spaceBehind 2 = .ok (.iadd, 1) := by decide +kernel
theorem dX4_spaceBehind_3 : decode cX4_spaceBehind 3 = .ok (.aload_n 0, 1) := by decide +kernel
theorem dX4_spaceBehind_4 : decode cX4_spaceBehind 4 = .ok (.getfield 12, 3) := by decide +kernel
theorem dX4_spaceBehind_7 : decode cX4_spaceBehind 7 = .ok (.iload_n 1, 1) := by decide +kernel
theorem dX4_spaceBehind_8 : decode cX4_spaceBehind 8 = .ok (.invokevirtual 82, 3) := by decide +kernel
theorem dX4_spaceBehind_11 : decode cX4_spaceBehind 11 = .ok (.if_icmp .lt 5, 3) := by decide +kernel
theorem dX4_spaceBehind_14 : decode cX4_spaceBehind 14 = .ok (.iconst 0, 1) := by decide +kernel
theorem dX4_spaceBehind_15 : decode cX4_spaceBehind 15 = .ok (.ireturn, 1) := by decide +kernel
theorem dX4_spaceBehind_16 : decode cX4_spaceBehind 16 = .ok (.aload_n 0, 1) := by decide +kernel
theorem dX4_spaceBehind_17 : decode cX4_spaceBehind 17 = .ok (.getfield 12, 3) := by decide +kernel
theorem dX4_spaceBehind_20 : decode cX4_spaceBehind 20 = .ok (.iload_n 1, 1) := by decide +kernel
theorem dX4_spaceBehind_21 : decode cX4_spaceBehind 21 = .ok (.iload_n 2, 1) := by decide +kernel
theorem dX4_spaceBehind_22 : decode cX4_spaceBehind 22 = .ok (.invokevirtual 85, 3) := by decide +kernel
theorem dX4_spaceBehind_25 : decode cX4_spaceBehind 25 = .ok (.istore_n 3, 1) := by decide +kernel
theorem dX4_spaceBehind_26 : decode cX4_spaceBehind 26 = .ok (.aload_n 0, 1) := by decide +kernel
theorem dX4_spaceBehind_27 : decode cX4_spaceBehind 27 = .ok (.getfield 12, 3) := by decide +kernel
theorem dX4_spaceBehind_30 : decode cX4_spaceBehind 30 = .ok (.iload_n 1, 1) := by decide +kernel
theorem dX4_spaceBehind_31 : decode cX4_spaceBehind 31 = .ok (.iload_n 2, 1) := by decide +kernel
theorem dX4_spaceBehind_32 : decode cX4_spaceBehind 32 = .ok (.iconst 1, 1) := by decide +kernel
theorem dX4_spaceBehind_33 : decode cX4_spaceBehind 33 = .ok (.iadd, 1) := by decide +kernel
theorem dX4_spaceBehind_34 : decode cX4_spaceBehind 34 = .ok (.invokevirtual 85, 3) := by decide +kernel
theorem dX4_spaceBehind_37 : decode cX4_spaceBehind 37 = .ok (.istore 4, 2) := by decide +kernel
theorem dX4_spaceBehind_39 : decode cX4_spaceBehind 39 = .ok (.aload_n 0, 1) := by decide +kernel
theorem dX4_spaceBehind_40 : decode cX4_spaceBehind 40 = .ok (.getfield 21, 3) := by decide +kernel
theorem dX4_spaceBehind_43 : decode cX4_spaceBehind 43 = .ok (.aload_n 0, 1) := by decide +kernel
theorem dX4_spaceBehind_44 : decode cX4_spaceBehind 44 = .ok (.getfield 21, 3) := by decide +kernel
theorem dX4_spaceBehind_47 : decode cX4_spaceBehind 47 = .ok (.iload_n 3, 1) := by decide +kernel
theorem dX4_spaceBehind_48 : decode cX4_spaceBehind 48 = .ok (.iload 4, 2) := by decide +kernel
theorem dX4_spaceBehind_50 : decode cX4_spaceBehind 50 = .ok (.invokevirtual 89, 3) := by decide +kernel
theorem dX4_spaceBehind_53 : decode cX4_spaceBehind 53 = .ok (.invokevirtual 93, 3) := by decide +kernel
theorem dX4_spaceBehind_56 : decode cX4_spaceBehind 56 = .ok (.istore 5, 2) := by decide +kernel
theorem dX4_spaceBehind_58 : decode cX4_spaceBehind 58 = .ok (.iconst 1, 1) := by decide +kernel
theorem dX4_spaceBehind_59 : decode cX4_spaceBehind 59 = .ok (.bipush 6, 2) := by decide +kernel
theorem dX4_spaceBehind_61 : decode cX4_spaceBehind 61 = .ok (.iload_n 3, 1) := by decide +kernel
theorem dX4_spaceBehind_62 : decode cX4_spaceBehind 62 = .ok (.invokestatic 96, 3) := by decide +kernel
theorem dX4_spaceBehind_65 : decode cX4_spaceBehind 65 = .ok (.isub, 1) := by decide +kernel
theorem dX4_spaceBehind_66 : decode cX4_spaceBehind 66 = .ok (.iload 4, 2) := by decide +kernel
theorem dX4_spaceBehind_68 : decode cX4_spaceBehind 68 = .ok (.invokestatic 96, 3) := by decide +kernel
theorem dX4_spaceBehind_71 : decode cX4_spaceBehind 71 = .ok (.isub, 1) := by decide +kernel
theorem dX4_spaceBehind_72 : decode cX4_spaceBehind 72 = .ok (.iload 5, 2) := by decide +kernel
theorem dX4_spaceBehind_74 : decode cX4_spaceBehind 74 = .ok (.iadd, 1) := by decide +kernel
theorem dX4_spaceBehind_75 : decode cX4_spaceBehind 75 = .ok (.invokestatic 102, 3) := by decide +kernel
theorem dX4_spaceBehind_78 : decode cX4_spaceBehind 78 = .ok (.ireturn, 1) := by decide +kernel
set_option maxRecDepth 20000 in
theorem ggX4_measuredSpace_X4_spaceBehind : GoodIn wsX4_measuredSpace wsX4_spaceBehind := goodIn_r _ [6, 1, 7, 8, 9, 10, 11, 12, 13, 14, 15, 16, 17, 18, 19, 20, 21, 22, 23, 24, 25, 26, 27, 28, 29, 30, 31, 32, 33, 34, 35, 36, 37, 38, 39, 40, 41, 42, 43, 44, 45, 46, 47, 48, 49, 50, 51, 52, 53, 54, 55, 56] (by decide +kernel) (by decide +kernel)
set_option maxRecDepth 20000 in
theorem gX4_measuredSpace_X4_spaceBehind : GoodIn wsX4_measuredSpace (wsV RX4 108 RX4 yX4_spaceBehind wsX4_spaceBehind) := goodIn_app (goodIn_of _ (by decide +kernel)) ggX4_measuredSpace_X4_spaceBehind
set_option maxRecDepth 20000 in
theorem ggX4_measuredSpace_X1_codeAt : GoodIn wsX4_measuredSpace wsX1_codeAt := goodIn_r _ [21, 22, 50, 51, 52] (by decide +kernel) (by decide +kernel)
set_option maxRecDepth 20000 in
theorem gX4_measuredSpace_X1_codeAt : GoodIn wsX4_measuredSpace (wsV RX4 85 RX1 yX1_codeAt wsX1_codeAt) := goodIn_app (goodIn_of _ (by decide +kernel)) ggX4_measuredSpace_X1_codeAt
set_option maxRecDepth 20000 in
theorem ggX4_measuredSpace_X3_openness : GoodIn wsX4_measuredSpace wsX3_openness := goodIn_r _ [39] (by decide +kernel) (by decide +kernel)
set_option maxRecDepth 20000 in
theorem gX4_measuredSpace_X3_openness : GoodIn wsX4_measuredSpace (va_wsS RX4 96 yX3_openness wsX3_openness) := goodIn_app (goodIn_of _ (by decide +kernel)) ggX4_measuredSpace_X3_openness
theorem dX4_measuredSpace_0 : decode cX4_measuredSpace 0 = .ok (.aload_n 0, 1) := by decide +kernel
theorem dX4_measuredSpace_1 : decode cX4_measuredSpace 1 = .ok (.iload_n 1, 1) := by decide +kernel
theorem dX4_measuredSpace_2 : decode cX4_measuredSpace 2 = .ok (.iload_n 2, 1) := by decide +kernel
theorem dX4_measuredSpace_3 : decode cX4_measuredSpace 3 = .ok (.invokevirtual 108, 3) := by decide +kernel
theorem dX4_measuredSpace_6 : decode cX4_measuredSpace 6 = .ok (.aload_n 0, 1) := by decide +kernel
theorem dX4_measuredSpace_7 : decode cX4_measuredSpace 7 = .ok (.getfield 12, 3) := by decide +kernel
theorem dX4_measuredSpace_10 : decode cX4_measuredSpace 10 = .ok (.iload_n 1, 1) := by decide +kernel
theorem dX4_measuredSpace_11 : decode cX4_measuredSpace 11 = .ok (.iload_n 2, 1) := by decide +kernel
theorem dX4_measuredSpace_12 : decode cX4_measuredSpace 12 = .ok (.invokevirtual 85, 3) := by decide +kernel
theorem dX4_measuredSpace_15 : decode cX4_measuredSpace 15 = .ok (.invokestatic 96, 3) := by decide +kernel
theorem dX4_measuredSpace_18 : decode cX4_measuredSpace 18 = .ok (.iadd, 1) := by decide +kernel
theorem dX4_measuredSpace_19 : decode cX4_measuredSpace 19 = .ok (.aload_n 0, 1) := by decide +kernel
theorem dX4_measuredSpace_20 : decode cX4_measuredSpace 20 = .ok (.getfield 12, 3) := by decide +kernel
theorem dX4_measuredSpace_23 : decode cX4_measuredSpace 23 = .ok (.iload_n 1, 1) := by decide +kernel
theorem dX4_measuredSpace_24 : decode cX4_measuredSpace 24 = .ok (.iload_n 2, 1) := by decide +kernel
theorem dX4_measuredSpace_25 : decode cX4_measuredSpace 25 = .ok (.iconst 1, 1) := by decide +kernel
theorem dX4_measuredSpace_26 : decode cX4_measuredSpace 26 = .ok (.iadd, 1) := by decide +kernel
theorem dX4_measuredSpace_27 : decode cX4_measuredSpace 27 = .ok (.invokevirtual 85, 3) := by decide +kernel
theorem dX4_measuredSpace_30 : decode cX4_measuredSpace 30 = .ok (.invokestatic 96, 3) := by decide +kernel
theorem dX4_measuredSpace_33 : decode cX4_measuredSpace 33 = .ok (.iadd, 1) := by decide +kernel
theorem dX4_measuredSpace_34 : decode cX4_measuredSpace 34 = .ok (.ireturn, 1) := by decide +kernel
set_option maxRecDepth 20000 in
theorem ggX4_unitsBefore_X1_codeAt : GoodIn wsX4_unitsBefore wsX1_codeAt := goodIn_r _ [6, 7, 53, 54, 55] (by decide +kernel) (by decide +kernel)
set_option maxRecDepth 20000 in
theorem gX4_unitsBefore_X1_codeAt : GoodIn wsX4_unitsBefore (wsV RX4 85 RX1 yX1_codeAt wsX1_codeAt) := goodIn_app (goodIn_of _ (by decide +kernel)) ggX4_unitsBefore_X1_codeAt
set_option maxRecDepth 20000 in
theorem ggX4_unitsBefore_X3_width : GoodIn wsX4_unitsBefore wsX3_width := goodIn_r _ [11] (by decide +kernel) (by decide +kernel)
set_option maxRecDepth 20000 in
theorem gX4_unitsBefore_X3_width : GoodIn wsX4_unitsBefore (va_wsS RX4 111 yX3_width wsX3_width) := goodIn_app (goodIn_of _ (by decide +kernel)) ggX4_unitsBefore_X3_width
set_option maxRecDepth 20000 in
theorem ggX4_unitsBefore_X4_spaceBehind : GoodIn wsX4_unitsBefore wsX4_spaceBehind := goodIn_r _ [16, 1, 17, 18, 19, 20, 21, 22, 23, 24, 5, 25, 26, 2, 3, 4, 6, 7, 27, 28, 29, 30, 31, 32, 33, 34, 35, 36, 37, 38, 39, 40, 41, 10, 42, 43, 44, 45, 46, 47, 48, 49, 50, 51, 52, 53, 54, 55, 56, 57, 58, 59] (by decide +kernel) (by decide +kernel)
set_option maxRecDepth 20000 in
theorem gX4_unitsBefore_X4_spaceBehind : GoodIn wsX4_unitsBefore (wsV RX4 108 RX4 yX4_spaceBehind wsX4_spaceBehind) := goodIn_app (goodIn_of _ (by decide +kernel)) ggX4_unitsBefore_X4_spaceBehind
theorem dX4_unitsBefore_0 : decode cX4_unitsBefore 0 = .ok (.iconst 0, 1) := by decide +kernel
theorem dX4_unitsBefore_1 : decode cX4_unitsBefore 1 = .ok (.istore_n 3, 1) := by decide +kernel
theorem dX4_unitsBefore_2 : decode cX4_unitsBefore 2 = .ok (.iconst 0, 1) := by decide +kernel
theorem dX4_unitsBefore_3 : decode cX4_unitsBefore 3 = .ok (.istore 4, 2) := by decide +kernel
theorem dX4_unitsBefore_5 : decode cX4_unitsBefore 5 = .ok (.iload 4, 2) := by decide +kernel
theorem dX4_unitsBefore_7 : decode cX4_unitsBefore 7 = .ok (.iload_n 2, 1) := by decide +kernel
theorem dX4_unitsBefore_8 : decode cX4_unitsBefore 8 = .ok (.if_icmp .ge 40, 3) := by decide +kernel
theorem dX4_unitsBefore_11 : decode cX4_unitsBefore 11 = .ok (.iload 4, 2) := by decide +kernel
theorem dX4_unitsBefore_13 : decode cX4_unitsBefore 13 = .ok (.bipush 16, 2) := by decide +kernel
theorem dX4_unitsBefore_15 : decode cX4_unitsBefore 15 = .ok (.if_icmp .ge 33, 3) := by decide +kernel
theorem dX4_unitsBefore_18 : decode cX4_unitsBefore 18 = .ok (.iload_n 3, 1) := by decide +kernel
theorem dX4_unitsBefore_19 : decode cX4_unitsBefore 19 = .ok (.aload_n 0, 1) := by decide +kernel
theorem dX4_unitsBefore_20 : decode cX4_unitsBefore 20 = .ok (.getfield 12, 3) := by decide +kernel
theorem dX4_unitsBefore_23 : decode cX4_unitsBefore 23 = .ok (.iload_n 1, 1) := by decide +kernel
theorem dX4_unitsBefore_24 : decode cX4_unitsBefore 24 = .ok (.iload 4, 2) := by decide +kernel
theorem dX4_unitsBefore_26 : decode cX4_unitsBefore 26 = .ok (.invokevirtual 85, 3) := by decide +kernel
theorem dX4_unitsBefore_29 : decode cX4_unitsBefore 29 = .ok (.invokestatic 111, 3) := by decide +kernel
theorem dX4_unitsBefore_32 : decode cX4_unitsBefore 32 = .ok (.aload_n 0, 1) := by decide +kernel
theorem dX4_unitsBefore_33 : decode cX4_unitsBefore 33 = .ok (.iload_n 1, 1) := by decide +kernel
theorem dX4_unitsBefore_34 : decode cX4_unitsBefore 34 = .ok (.iload 4, 2) := by decide +kernel
theorem dX4_unitsBefore_36 : decode cX4_unitsBefore 36 = .ok (.invokevirtual 108, 3) := by decide +kernel
theorem dX4_unitsBefore_39 : decode cX4_unitsBefore 39 = .ok (.iadd, 1) := by decide +kernel
theorem dX4_unitsBefore_40 : decode cX4_unitsBefore 40 = .ok (.iadd, 1) := by decide +kernel
theorem dX4_unitsBefore_41 : decode cX4_unitsBefore 41 = .ok (.istore_n 3, 1) := by decide +kernel
theorem dX4_unitsBefore_42 : decode cX4_unitsBefore 42 = .ok (.iinc 4 1, 3) := by decide +kernel
theorem dX4_unitsBefore_45 : decode cX4_unitsBefore 45 = .ok (.goto (-40), 3) := by decide +kernel
theorem dX4_unitsBefore_48 : decode cX4_unitsBefore 48 = .ok (.iload_n 3, 1) := by decide +kernel
theorem dX4_unitsBefore_49 : decode cX4_unitsBefore 49 = .ok (.ireturn, 1) := by decide +kernel
set_option maxRecDepth 20000 in
theorem ggX4_unitsOf_X1_lengthOf : GoodIn wsX4_unitsOf wsX1_lengthOf := goodIn_r _ [6, 7, 57, 58, 59] (by decide +kernel) (by decide +kernel)
set_option maxRecDepth 20000 in
theorem gX4_unitsOf_X1_lengthOf : GoodIn wsX4_unitsOf (wsV RX4 82 RX1 yX1_lengthOf wsX1_lengthOf) := goodIn_app (goodIn_of _ (by decide +kernel)) ggX4_unitsOf_X1_lengthOf
set_option maxRecDepth 20000 in
theorem ggX4_unitsOf_X4_unitsBefore : GoodIn wsX4_unitsOf wsX4_unitsBefore := goodIn_r _ [12, 1, 13, 14, 15, 5, 16, 17, 18, 19, 20, 21, 22, 23, 24, 11, 25, 26, 27, 28, 29, 30, 2, 3, 4, 6, 7, 31, 32, 33, 34, 35, 36, 37, 38, 39, 40, 41, 42, 43, 44, 45, 46, 47, 48, 49, 50, 51, 52, 53, 54, 55, 56, 57, 58, 59, 60, 61, 62, 63] (by decide +kernel) (by decide +kernel)
set_option maxRecDepth 20000 in
theorem gX4_unitsOf_X4_unitsBefore : GoodIn wsX4_unitsOf (wsV RX4 113 RX4 yX4_unitsBefore wsX4_unitsBefore) := goodIn_app (goodIn_of _ (by decide +kernel)) ggX4_unitsOf_X4_unitsBefore
theorem dX4_unitsOf_0 : decode cX4_unitsOf 0 = .ok (.aload_n 0, 1) := by decide +kernel
theorem dX4_unitsOf_1 : decode cX4_unitsOf 1 = .ok (.iload_n 1, 1) := by decide +kernel
theorem dX4_unitsOf_2 : decode cX4_unitsOf 2 = .ok (.aload_n 0, 1) := by decide +kernel
theorem dX4_unitsOf_3 : decode cX4_unitsOf 3 = .ok (.getfield 12, 3) := by decide +kernel
theorem dX4_unitsOf_6 : decode cX4_unitsOf 6 = .ok (.iload_n 1, 1) := by decide +kernel
theorem dX4_unitsOf_7 : decode cX4_unitsOf 7 = .ok (.invokevirtual 82, 3) := by decide +kernel
theorem dX4_unitsOf_10 : decode cX4_unitsOf 10 = .ok (.invokevirtual 113, 3) := by decide +kernel
theorem dX4_unitsOf_13 : decode cX4_unitsOf 13 = .ok (.ireturn, 1) := by decide +kernel
set_option maxRecDepth 20000 in
theorem ggX4_inkOf_X1_lengthOf : GoodIn wsX4_inkOf wsX1_lengthOf := goodIn_r _ [6, 7, 27, 28, 29] (by decide +kernel) (by decide +kernel)
set_option maxRecDepth 20000 in
theorem gX4_inkOf_X1_lengthOf : GoodIn wsX4_inkOf (wsV RX4 82 RX1 yX1_lengthOf wsX1_lengthOf) := goodIn_app (goodIn_of _ (by decide +kernel)) ggX4_inkOf_X1_lengthOf
set_option maxRecDepth 20000 in
theorem ggX4_inkOf_X1_codeAt : GoodIn wsX4_inkOf wsX1_codeAt := goodIn_r _ [11, 12, 27, 28, 29] (by decide +kernel) (by decide +kernel)
set_option maxRecDepth 20000 in
theorem gX4_inkOf_X1_codeAt : GoodIn wsX4_inkOf (wsV RX4 85 RX1 yX1_codeAt wsX1_codeAt) := goodIn_app (goodIn_of _ (by decide +kernel)) ggX4_inkOf_X1_codeAt
set_option maxRecDepth 20000 in
theorem ggX4_inkOf_X3_ink : GoodIn wsX4_inkOf wsX3_ink := goodIn_r _ [16] (by decide +kernel) (by decide +kernel)
set_option maxRecDepth 20000 in
theorem gX4_inkOf_X3_ink : GoodIn wsX4_inkOf (va_wsS RX4 116 yX3_ink wsX3_ink) := goodIn_app (goodIn_of _ (by decide +kernel)) ggX4_inkOf_X3_ink
theorem dX4_inkOf_0 : decode cX4_inkOf 0 = .ok (.iconst 0, 1) := by decide +kernel
theorem dX4_inkOf_1 : decode cX4_inkOf 1 = .ok (.istore_n 2, 1) := by decide +kernel
theorem dX4_inkOf_2 : decode cX4_inkOf 2 = .ok (.iconst 0, 1) := by decide +kernel
theorem dX4_inkOf_3 : decode cX4_inkOf 3 = .ok (.istore_n 3, 1) := by decide +kernel
theorem dX4_inkOf_4 : decode cX4_inkOf 4 = .ok (.iload_n 3, 1) := by decide +kernel
theorem dX4_inkOf_5 : decode cX4_inkOf 5 = .ok (.aload_n 0, 1) := by decide +kernel
theorem dX4_inkOf_6 : decode cX4_inkOf 6 = .ok (.getfield 12, 3) := by decide +kernel
theorem dX4_inkOf_9 : decode cX4_inkOf 9 = .ok (.iload_n 1, 1) := by decide +kernel
theorem dX4_inkOf_10 : decode cX4_inkOf 10 = .ok (.invokevirtual 82, 3) := by decide +kernel
theorem dX4_inkOf_13 : decode cX4_inkOf 13 = .ok (.if_icmp .ge 24, 3) := by decide +kernel
theorem dX4_inkOf_16 : decode cX4_inkOf 16 = .ok (.iload_n 2, 1) := by decide +kernel
theorem dX4_inkOf_17 : decode cX4_inkOf 17 = .ok (.aload_n 0, 1) := by decide +kernel
theorem dX4_inkOf_18 : decode cX4_inkOf 18 = .ok (.getfield 12, 3) := by decide +kernel
theorem dX4_inkOf_21 : decode cX4_inkOf 21 = .ok (.iload_n 1, 1) := by decide +kernel
theorem dX4_inkOf_22 : decode cX4_inkOf 22 = .ok (.iload_n 3, 1) := by decide +kernel
theorem dX4_inkOf_23 : decode cX4_inkOf 23 = .ok (.invokevirtual 85, 3) := by decide +kernel
theorem dX4_inkOf_26 : decode cX4_inkOf 26 = .ok (.invokestatic 116, 3) := by decide +kernel
theorem dX4_inkOf_29 : decode cX4_inkOf 29 = .ok (.iadd, 1) := by decide +kernel
theorem dX4_inkOf_30 : decode cX4_inkOf 30 = .ok (.istore_n 2, 1) := by decide +kernel
theorem dX4_inkOf_31 : decode cX4_inkOf 31 = .ok (.iinc 3 1, 3) := by decide +kernel
theorem dX4_inkOf_34 : decode cX4_inkOf 34 = .ok (.goto (-30), 3) := by decide +kernel
theorem dX4_inkOf_37 : decode cX4_inkOf 37 = .ok (.iload_n 2, 1) := by decide +kernel
theorem dX4_inkOf_38 : decode cX4_inkOf 38 = .ok (.ireturn, 1) := by decide +kernel
set_option maxRecDepth 20000 in
theorem ggX4_mostUnits_X4_unitsOf : GoodIn wsX4_mostUnits wsX4_unitsOf := goodIn_r _ [10, 1, 11, 12, 13, 14, 15, 16, 17, 18, 19, 9, 20, 21, 22, 23, 24, 25, 26, 27, 28, 29, 30, 31, 32, 33, 34, 2, 3, 4, 5, 35, 36, 37, 38, 39, 40, 41, 42, 43, 44, 45, 46, 47, 48, 49, 50, 51, 52, 53, 54, 55, 56, 57, 58, 59, 60, 61, 62, 63, 64, 65, 66, 67] (by decide +kernel) (by decide +kernel)
set_option maxRecDepth 20000 in
theorem gX4_mostUnits_X4_unitsOf : GoodIn wsX4_mostUnits (wsV RX4 119 RX4 yX4_unitsOf wsX4_unitsOf) := goodIn_app (goodIn_of _ (by decide +kernel)) ggX4_mostUnits_X4_unitsOf
theorem dX4_mostUnits_0 : decode cX4_mostUnits 0 = .ok (.iconst 0, 1) := by decide +kernel
theorem dX4_mostUnits_1 : decode cX4_mostUnits 1 = .ok (.istore_n 2, 1) := by decide +kernel
theorem dX4_mostUnits_2 : decode cX4_mostUnits 2 = .ok (.iconst 0, 1) := by decide +kernel
theorem dX4_mostUnits_3 : decode cX4_mostUnits 3 = .ok (.istore_n 3, 1) := by decide +kernel
theorem dX4_mostUnits_4 : decode cX4_mostUnits 4 = .ok (.iload_n 3, 1) := by decide +kernel
theorem dX4_mostUnits_5 : decode cX4_mostUnits 5 = .ok (.aload_n 0, 1) := by decide +kernel
theorem dX4_mostUnits_6 : decode cX4_mostUnits 6 = .ok (.getfield 12, 3) := by decide +kernel
theorem dX4_mostUnits_9 : decode cX4_mostUnits 9 = .ok (.getfield 67, 3) := by decide +kernel
theorem dX4_mostUnits_12 : decode cX4_mostUnits 12 = .ok (.if_icmp .ge 24, 3) := by decide +kernel
theorem dX4_mostUnits_15 : decode cX4_mostUnits 15 = .ok (.iload_n 3, 1) := by decide +kernel
theorem dX4_mostUnits_16 : decode cX4_mostUnits 16 = .ok (.iload_n 1, 1) := by decide +kernel
theorem dX4_mostUnits_17 : decode cX4_mostUnits 17 = .ok (.if_icmp .eq 13, 3) := by decide +kernel
theorem dX4_mostUnits_20 : decode cX4_mostUnits 20 = .ok (.iload_n 2, 1) := by decide +kernel
theorem dX4_mostUnits_21 : decode cX4_mostUnits 21 = .ok (.aload_n 0, 1) := by decide +kernel
theorem dX4_mostUnits_22 : decode cX4_mostUnits 22 = .ok (.iload_n 3, 1) := by decide +kernel
theorem dX4_mostUnits_23 : decode cX4_mostUnits 23 = .ok (.invokevirtual 119, 3) := by decide +kernel
theorem dX4_mostUnits_26 : decode cX4_mostUnits 26 = .ok (.invokestatic 102, 3) := by decide +kernel
theorem dX4_mostUnits_29 : decode cX4_mostUnits 29 = .ok (.istore_n 2, 1) := by decide +kernel
theorem dX4_mostUnits_30 : decode cX4_mostUnits 30 = .ok (.iinc 3 1, 3) := by decide +kernel
theorem dX4_mostUnits_33 : decode cX4_mostUnits 33 = .ok (.goto (-29), 3) := by decide +kernel
theorem dX4_mostUnits_36 : decode cX4_mostUnits 36 = .ok (.iload_n 2, 1) := by decide +kernel
theorem dX4_mostUnits_37 : decode cX4_mostUnits 37 = .ok (.ireturn, 1) := by decide +kernel
set_option maxRecDepth 20000 in
theorem ggX4_rowOf_X4_quotient : GoodIn wsX4_rowOf wsX4_quotient := goodIn_r _ [5, 6, 7, 8, 9] (by decide +kernel) (by decide +kernel)
set_option maxRecDepth 20000 in
theorem gX4_rowOf_X4_quotient : GoodIn wsX4_rowOf (va_wsS RX4 122 yX4_quotient wsX4_quotient) := goodIn_app (goodIn_of _ (by decide +kernel)) ggX4_rowOf_X4_quotient
theorem dX4_rowOf_0 : decode cX4_rowOf 0 = .ok (.iload_n 1, 1) := by decide +kernel
theorem dX4_rowOf_1 : decode cX4_rowOf 1 = .ok (.aload_n 0, 1) := by decide +kernel
theorem dX4_rowOf_2 : decode cX4_rowOf 2 = .ok (.getfield 35, 3) := by decide +kernel
theorem dX4_rowOf_5 : decode cX4_rowOf 5 = .ok (.invokestatic 122, 3) := by decide +kernel
theorem dX4_rowOf_8 : decode cX4_rowOf 8 = .ok (.ireturn, 1) := by decide +kernel
theorem dX4_columnOf_0 : decode cX4_columnOf 0 = .ok (.aload_n 0, 1) := by decide +kernel
theorem dX4_columnOf_1 : decode cX4_columnOf 1 = .ok (.getfield 35, 3) := by decide +kernel
theorem dX4_columnOf_4 : decode cX4_columnOf 4 = .ok (.ifCond .le 12, 3) := by decide +kernel
theorem dX4_columnOf_7 : decode cX4_columnOf 7 = .ok (.iload_n 1, 1) := by decide +kernel
theorem dX4_columnOf_8 : decode cX4_columnOf 8 = .ok (.aload_n 0, 1) := by decide +kernel
theorem dX4_columnOf_9 : decode cX4_columnOf 9 = .ok (.getfield 35, 3) := by decide +kernel
theorem dX4_columnOf_12 : decode cX4_columnOf 12 = .ok (.irem, 1) := by decide +kernel
theorem dX4_columnOf_13 : decode cX4_columnOf 13 = .ok (.goto 4, 3) := by decide +kernel
theorem dX4_columnOf_16 : decode cX4_columnOf 16 = .ok (.iconst 0, 1) := by decide +kernel
theorem dX4_columnOf_17 : decode cX4_columnOf 17 = .ok (.ireturn, 1) := by decide +kernel
set_option maxRecDepth 20000 in
theorem ggX4_rowsFor_X4_quotient : GoodIn wsX4_rowsFor wsX4_quotient := goodIn_r _ [5, 6, 7, 8, 9] (by decide +kernel) (by decide +kernel)
set_option maxRecDepth 20000 in
theorem gX4_rowsFor_X4_quotient : GoodIn wsX4_rowsFor (va_wsS RX4 122 yX4_quotient wsX4_quotient) := goodIn_app (goodIn_of _ (by decide +kernel)) ggX4_rowsFor_X4_quotient
theorem dX4_rowsFor_0 : decode cX4_rowsFor 0 = .ok (.iload_n 1, 1) := by decide +kernel
theorem dX4_rowsFor_1 : decode cX4_rowsFor 1 = .ok (.aload_n 0, 1) := by decide +kernel
theorem dX4_rowsFor_2 : decode cX4_rowsFor 2 = .ok (.getfield 35, 3) := by decide +kernel
theorem dX4_rowsFor_5 : decode cX4_rowsFor 5 = .ok (.iadd, 1) := by decide +kernel
theorem dX4_rowsFor_6 : decode cX4_rowsFor 6 = .ok (.iconst 1, 1) := by decide +kernel
theorem dX4_rowsFor_7 : decode cX4_rowsFor 7 = .ok (.isub, 1) := by decide +kernel
theorem dX4_rowsFor_8 : decode cX4_rowsFor 8 = .ok (.aload_n 0, 1) := by decide +kernel
theorem dX4_rowsFor_9 : decode cX4_rowsFor 9 = .ok (.getfield 35, 3) := by decide +kernel
theorem dX4_rowsFor_12 : decode cX4_rowsFor 12 = .ok (.invokestatic 122, 3) := by decide +kernel
theorem dX4_rowsFor_15 : decode cX4_rowsFor 15 = .ok (.ireturn, 1) := by decide +kernel
set_option maxRecDepth 20000 in
theorem ggX4_rowBegin_X4_rowOf : GoodIn wsX4_rowBegin wsX4_rowOf := goodIn_r _ [6, 7, 8, 9, 5, 10, 11, 12, 13, 14, 15, 16, 17, 18, 19, 20, 21, 22, 23, 24] (by decide +kernel) (by decide +kernel)
set_option maxRecDepth 20000 in
theorem gX4_rowBegin_X4_rowOf : GoodIn wsX4_rowBegin (wsV RX4 125 RX4 yX4_rowOf wsX4_rowOf) := goodIn_app (goodIn_of _ (by decide +kernel)) ggX4_rowBegin_X4_rowOf
theorem dX4_rowBegin_0 : decode cX4_rowBegin 0 = .ok (.aload_n 0, 1) := by decide +kernel
theorem dX4_rowBegin_1 : decode cX4_rowBegin 1 = .ok (.getfield 32, 3) := by decide +kernel
theorem dX4_rowBegin_4 : decode cX4_rowBegin 4 = .ok (.bipush 12, 2) := by decide +kernel
theorem dX4_rowBegin_6 : decode cX4_rowBegin 6 = .ok (.iload_n 2, 1) := by decide +kernel
theorem dX4_rowBegin_7 : decode cX4_rowBegin 7 = .ok (.imul, 1) := by decide +kernel
theorem dX4_rowBegin_8 : decode cX4_rowBegin 8 = .ok (.aload_n 0, 1) := by decide +kernel
theorem dX4_rowBegin_9 : decode cX4_rowBegin 9 = .ok (.iload_n 1, 1) := by decide +kernel
theorem dX4_rowBegin_10 : decode cX4_rowBegin 10 = .ok (.invokevirtual 125, 3) := by decide +kernel
theorem dX4_rowBegin_13 : decode cX4_rowBegin 13 = .ok (.imul, 1) := by decide +kernel
theorem dX4_rowBegin_14 : decode cX4_rowBegin 14 = .ok (.iadd, 1) := by decide +kernel
theorem dX4_rowBegin_15 : decode cX4_rowBegin 15 = .ok (.ireturn, 1) := by decide +kernel
set_option maxRecDepth 20000 in
theorem ggX4_columnWidth_X4_quotient : GoodIn wsX4_columnWidth wsX4_quotient := goodIn_r _ [6, 7, 8, 9, 10] (by decide +kernel) (by decide +kernel)
set_option maxRecDepth 20000 in
theorem gX4_columnWidth_X4_quotient : GoodIn wsX4_columnWidth (va_wsS RX4 122 yX4_quotient wsX4_quotient) := goodIn_app (goodIn_of _ (by decide +kernel)) ggX4_columnWidth_X4_quotient
theorem dX4_columnWidth_0 : decode cX4_columnWidth 0 = .ok (.iload_n 1, 1) := by decide +kernel
theorem dX4_columnWidth_1 : decode cX4_columnWidth 1 = .ok (.iconst 2, 1) := by decide +kernel
theorem dX4_columnWidth_2 : decode cX4_columnWidth 2 = .ok (.aload_n 0, 1) := by decide +kernel
theorem dX4_columnWidth_3 : decode cX4_columnWidth 3 = .ok (.getfield 32, 3) := by decide +kernel
theorem dX4_columnWidth_6 : decode cX4_columnWidth 6 = .ok (.imul, 1) := by decide +kernel
theorem dX4_columnWidth_7 : decode cX4_columnWidth 7 = .ok (.isub, 1) := by decide +kernel
theorem dX4_columnWidth_8 : decode cX4_columnWidth 8 = .ok (.aload_n 0, 1) := by decide +kernel
theorem dX4_columnWidth_9 : decode cX4_columnWidth 9 = .ok (.getfield 35, 3) := by decide +kernel
theorem dX4_columnWidth_12 : decode cX4_columnWidth 12 = .ok (.invokestatic 122, 3) := by decide +kernel
theorem dX4_columnWidth_15 : decode cX4_columnWidth 15 = .ok (.ireturn, 1) := by decide +kernel
set_option maxRecDepth 20000 in
theorem ggX4_columnBegin_X4_columnOf : GoodIn wsX4_columnBegin wsX4_columnOf := goodIn_r _ [7, 8, 20, 21, 22, 23, 24, 25, 26, 27, 28, 29] (by decide +kernel) (by decide +kernel)
set_option maxRecDepth 20000 in
theorem gX4_columnBegin_X4_columnOf : GoodIn wsX4_columnBegin (wsV RX4 128 RX4 yX4_columnOf wsX4_columnOf) := goodIn_app (goodIn_of _ (by decide +kernel)) ggX4_columnBegin_X4_columnOf
set_option maxRecDepth 20000 in
theorem ggX4_columnBegin_X4_columnWidth : GoodIn wsX4_columnBegin wsX4_columnWidth := goodIn_r _ [12, 1, 8, 13, 14, 6, 15, 16, 17, 18, 19, 20, 21, 22, 23, 24, 25, 26, 27, 28, 29] (by decide +kernel) (by decide +kernel)
set_option maxRecDepth 20000 in
theorem gX4_columnBegin_X4_columnWidth : GoodIn wsX4_columnBegin (wsV RX4 131 RX4 yX4_columnWidth wsX4_columnWidth) := goodIn_app (goodIn_of _ (by decide +kernel)) ggX4_columnBegin_X4_columnWidth
theorem dX4_columnBegin_0 : decode cX4_columnBegin 0 = .ok (.aload_n 0, 1) := by decide +kernel
theorem dX4_columnBegin_1 : decode cX4_columnBegin 1 = .ok (.getfield 32, 3) := by decide +kernel
theorem dX4_columnBegin_4 : decode cX4_columnBegin 4 = .ok (.aload_n 0, 1) := by decide +kernel
theorem dX4_columnBegin_5 : decode cX4_columnBegin 5 = .ok (.iload_n 1, 1) := by decide +kernel
theorem dX4_columnBegin_6 : decode cX4_columnBegin 6 = .ok (.invokevirtual 128, 3) := by decide +kernel
theorem dX4_columnBegin_9 : decode cX4_columnBegin 9 = .ok (.aload_n 0, 1) := by decide +kernel
theorem dX4_columnBegin_10 : decode cX4_columnBegin 10 = .ok (.aload_n 0, 1) := by decide +kernel
theorem dX4_columnBegin_11 : decode cX4_columnBegin 11 = .ok (.getfield 25, 3) := by decide +kernel
theorem dX4_columnBegin_14 : decode cX4_columnBegin 14 = .ok (.invokevirtual 131, 3) := by decide +kernel
theorem dX4_columnBegin_17 : decode cX4_columnBegin 17 = .ok (.imul, 1) := by decide +kernel
theorem dX4_columnBegin_18 : decode cX4_columnBegin 18 = .ok (.iadd, 1) := by decide +kernel
theorem dX4_columnBegin_19 : decode cX4_columnBegin 19 = .ok (.ireturn, 1) := by decide +kernel
set_option maxRecDepth 20000 in
theorem ggX4_sizeNow_X4_hasEngraved : GoodIn wsX4_sizeNow wsX4_hasEngraved := goodIn_r _ [9, 10, 84, 85, 86, 87, 88, 89, 90, 91, 92, 93] (by decide +kernel) (by decide +kernel)
set_option maxRecDepth 20000 in
theorem gX4_sizeNow_X4_hasEngraved : GoodIn wsX4_sizeNow (wsV RX4 134 RX4 yX4_hasEngraved wsX4_hasEngraved) := goodIn_app (goodIn_of _ (by decide +kernel)) ggX4_sizeNow_X4_hasEngraved
set_option maxRecDepth 20000 in
theorem ggX4_sizeNow_X4_mostUnits : GoodIn wsX4_sizeNow wsX4_mostUnits := goodIn_r _ [14, 4, 15, 16, 17, 18, 19, 20, 21, 8, 22, 23, 24, 25, 26, 27, 28, 29, 30, 31, 32, 33, 34, 35, 36, 37, 38, 39, 40, 41, 42, 43, 44, 45, 46, 47, 48, 49, 50, 51, 52, 53, 54, 55, 56, 57, 58, 59, 60, 61, 62, 84, 85, 86, 87, 88, 89, 90, 91, 92, 93, 94, 95, 96, 97, 98, 99, 100] (by decide +kernel) (by decide +kernel)
set_option maxRecDepth 20000 in
theorem gX4_sizeNow_X4_mostUnits : GoodIn wsX4_sizeNow (wsV RX4 138 RX4 yX4_mostUnits wsX4_mostUnits) := goodIn_app (goodIn_of _ (by decide +kernel)) ggX4_sizeNow_X4_mostUnits
set_option maxRecDepth 20000 in
theorem ggX4_sizeNow_X4_greatestSize : GoodIn wsX4_sizeNow wsX4_greatestSize := goodIn_r _ [66, 67, 68, 69, 70, 8, 71, 72, 73, 74, 75, 76, 77, 78, 79, 80, 81, 82, 83, 84, 85, 86, 87, 88, 89, 90, 91, 92, 93] (by decide +kernel) (by decide +kernel)
set_option maxRecDepth 20000 in
theorem gX4_sizeNow_X4_greatestSize : GoodIn wsX4_sizeNow (wsV RX4 141 RX4 yX4_greatestSize wsX4_greatestSize) := goodIn_app (goodIn_of _ (by decide +kernel)) ggX4_sizeNow_X4_greatestSize
theorem dX4_sizeNow_0 : decode cX4_sizeNow 0 = .ok (.aload_n 0, 1) := by decide +kernel
theorem dX4_sizeNow_1 : decode cX4_sizeNow 1 = .ok (.invokevirtual 134, 3) := by decide +kernel
theorem dX4_sizeNow_4 : decode cX4_sizeNow 4 = .ok (.ifCond .eq 8, 3) := by decide +kernel
theorem dX4_sizeNow_7 : decode cX4_sizeNow 7 = .ok (.aload_n 0, 1) := by decide +kernel
theorem dX4_sizeNow_8 : decode cX4_sizeNow 8 = .ok (.getfield 41, 3) := by decide +kernel
theorem dX4_sizeNow_11 : decode cX4_sizeNow 11 = .ok (.ireturn, 1) := by decide +kernel
theorem dX4_sizeNow_12 : decode cX4_sizeNow 12 = .ok (.aload_n 0, 1) := by decide +kernel
theorem dX4_sizeNow_13 : decode cX4_sizeNow 13 = .ok (.aload_n 0, 1) := by decide +kernel
theorem dX4_sizeNow_14 : decode cX4_sizeNow 14 = .ok (.getfield 25, 3) := by decide +kernel
theorem dX4_sizeNow_17 : decode cX4_sizeNow 17 = .ok (.aload_n 0, 1) := by decide +kernel
theorem dX4_sizeNow_18 : decode cX4_sizeNow 18 = .ok (.getfield 29, 3) := by decide +kernel
theorem dX4_sizeNow_21 : decode cX4_sizeNow 21 = .ok (.aload_n 0, 1) := by decide +kernel
theorem dX4_sizeNow_22 : decode cX4_sizeNow 22 = .ok (.getfield 12, 3) := by decide +kernel
theorem dX4_sizeNow_25 : decode cX4_sizeNow 25 = .ok (.getfield 67, 3) := by decide +kernel
theorem dX4_sizeNow_28 : decode cX4_sizeNow 28 = .ok (.aload_n 0, 1) := by decide +kernel
theorem dX4_sizeNow_29 : decode cX4_sizeNow 29 = .ok (.iconst (-1), 1) := by decide +kernel
theorem dX4_sizeNow_30 : decode cX4_sizeNow 30 = .ok (.invokevirtual 138, 3) := by decide +kernel
theorem dX4_sizeNow_33 : decode cX4_sizeNow 33 = .ok (.invokevirtual 141, 3) := by decide +kernel
theorem dX4_sizeNow_36 : decode cX4_sizeNow 36 = .ok (.ireturn, 1) := by decide +kernel
set_option maxRecDepth 20000 in
theorem ggX4_greatestSize_X4_rowsFor : GoodIn wsX4_greatestSize wsX4_rowsFor := goodIn_r _ [6, 7, 8, 9, 5, 10, 11, 12, 13, 14, 19, 20, 21, 22, 23, 24, 25, 26, 27, 28] (by decide +kernel) (by decide +kernel)
set_option maxRecDepth 20000 in
theorem gX4_greatestSize_X4_rowsFor : GoodIn wsX4_greatestSize (wsV RX4 145 RX4 yX4_rowsFor wsX4_rowsFor) := goodIn_app (goodIn_of _ (by decide +kernel)) ggX4_greatestSize_X4_rowsFor
set_option maxRecDepth 20000 in
theorem ggX4_greatestSize_X4_columnWidth : GoodIn wsX4_greatestSize wsX4_columnWidth := goodIn_r _ [18, 1, 7, 8, 9, 5, 10, 11, 12, 13, 14, 19, 20, 21, 22, 23, 24, 25, 26, 27, 28] (by decide +kernel) (by decide +kernel)
set_option maxRecDepth 20000 in
theorem gX4_greatestSize_X4_columnWidth : GoodIn wsX4_greatestSize (wsV RX4 131 RX4 yX4_columnWidth wsX4_columnWidth) := goodIn_app (goodIn_of _ (by decide +kernel)) ggX4_greatestSize_X4_columnWidth
theorem dX4_greatestSize_0 : decode cX4_greatestSize 0 = .ok (.iload_n 3, 1) := by decide +kernel
theorem dX4_greatestSize_1 : decode cX4_greatestSize 1 = .ok (.ifCond .ne 6, 3) := by decide +kernel
theorem dX4_greatestSize_4 : decode cX4_greatestSize 4 = .ok (.bipush 40, 2) := by decide +kernel
theorem dX4_greatestSize_6 : decode cX4_greatestSize 6 = .ok (.ireturn, 1) := by decide +kernel
theorem dX4_greatestSize_7 : decode cX4_greatestSize 7 = .ok (.bipush 12, 2) := by decide +kernel
theorem dX4_greatestSize_9 : decode cX4_greatestSize 9 = .ok (.aload_n 0, 1) := by decide +kernel
theorem dX4_greatestSize_10 : decode cX4_greatestSize 10 = .ok (.iload_n 3, 1) := by decide +kernel
theorem dX4_greatestSize_11 : decode cX4_greatestSize 11 = .ok (.invokevirtual 145, 3) := by decide +kernel
theorem dX4_greatestSize_14 : decode cX4_greatestSize 14 = .ok (.imul, 1) := by decide +kernel
theorem dX4_greatestSize_15 : decode cX4_greatestSize 15 = .ok (.istore 5, 2) := by decide +kernel
theorem dX4_greatestSize_17 : decode cX4_greatestSize 17 = .ok (.bipush 40, 2) := by decide +kernel
theorem dX4_greatestSize_19 : decode cX4_greatestSize 19 = .ok (.istore 6, 2) := by decide +kernel
theorem dX4_greatestSize_21 : decode cX4_greatestSize 21 = .ok (.iload 6, 2) := by decide +kernel
theorem dX4_greatestSize_23 : decode cX4_greatestSize 23 = .ok (.iconst 1, 1) := by decide +kernel
theorem dX4_greatestSize_24 : decode cX4_greatestSize 24 = .ok (.if_icmp .lt 41, 3) := by decide +kernel
theorem dX4_greatestSize_27 : decode cX4_greatestSize 27 = .ok (.iload 4, 2) := by decide +kernel
theorem dX4_greatestSize_29 : decode cX4_greatestSize 29 = .ok (.iload 6, 2) := by decide +kernel
theorem dX4_greatestSize_31 : decode cX4_greatestSize 31 = .ok (.imul, 1) := by decide +kernel
theorem dX4_greatestSize_32 : decode cX4_greatestSize 32 = .ok (.aload_n 0, 1) := by decide +kernel
theorem dX4_greatestSize_33 : decode cX4_greatestSize 33 = .ok (.iload_n 1, 1) := by decide +kernel
theorem dX4_greatestSize_34 : decode cX4_greatestSize 34 = .ok (.invokevirtual 131, 3) := by decide +kernel
theorem dX4_greatestSize_37 : decode cX4_greatestSize 37 = .ok (.if_icmp .gt 22, 3) := by decide +kernel
theorem dX4_greatestSize_40 : decode cX4_greatestSize 40 = .ok (.iload 5, 2) := by decide +kernel
theorem dX4_greatestSize_42 : decode cX4_greatestSize 42 = .ok (.iload 6, 2) := by decide +kernel
theorem dX4_greatestSize_44 : decode cX4_greatestSize 44 = .ok (.imul, 1) := by decide +kernel
theorem dX4_greatestSize_45 : decode cX4_greatestSize 45 = .ok (.iload_n 2, 1) := by decide +kernel
theorem dX4_greatestSize_46 : decode cX4_greatestSize 46 = .ok (.iconst 2, 1) := by decide +kernel
theorem dX4_greatestSize_47 : decode cX4_greatestSize 47 = .ok (.aload_n 0, 1) := by decide +kernel
theorem dX4_greatestSize_48 : decode cX4_greatestSize 48 = .ok (.getfield 32, 3) := by decide +kernel
theorem dX4_greatestSize_51 : decode cX4_greatestSize 51 = .ok (.imul, 1) := by decide +kernel
theorem dX4_greatestSize_52 : decode cX4_greatestSize 52 = .ok (.isub, 1) := by decide +kernel
theorem dX4_greatestSize_53 : decode cX4_greatestSize 53 = .ok (.if_icmp .gt 6, 3) := by decide +kernel
theorem dX4_greatestSize_56 : decode cX4_greatestSize 56 = .ok (.iload 6, 2) := by decide +kernel
theorem dX4_greatestSize_58 : decode cX4_greatestSize 58 = .ok (.ireturn, 1) := by decide +kernel
theorem dX4_greatestSize_59 : decode cX4_greatestSize 59 = .ok (.iinc 6 (-1), 3) := by decide +kernel
theorem dX4_greatestSize_62 : decode cX4_greatestSize 62 = .ok (.goto (-41), 3) := by decide +kernel
theorem dX4_greatestSize_65 : decode cX4_greatestSize 65 = .ok (.iconst 0, 1) := by decide +kernel
theorem dX4_greatestSize_66 : decode cX4_greatestSize 66 = .ok (.ireturn, 1) := by decide +kernel
set_option maxRecDepth 20000 in
theorem ggX4_fits_X4_unitsOf : GoodIn wsX4_fits wsX4_unitsOf := goodIn_r _ [8, 9, 10, 11, 12, 13, 14, 15, 16, 17, 18, 7, 19, 20, 21, 22, 23, 24, 25, 26, 27, 28, 29, 30, 31, 32, 33, 34, 35, 36, 37, 38, 39, 40, 41, 42, 43, 44, 45, 46, 47, 48, 49, 50, 51, 52, 53, 70, 71, 72, 73, 74, 75, 76, 77, 78, 79, 80, 81, 82, 83, 84, 85, 86] (by decide +kernel) (by decide +kernel)
set_option maxRecDepth 20000 in
theorem gX4_fits_X4_unitsOf : GoodIn wsX4_fits (wsV RX4 119 RX4 yX4_unitsOf wsX4_unitsOf) := goodIn_app (goodIn_of _ (by decide +kernel)) ggX4_fits_X4_unitsOf
set_option maxRecDepth 20000 in
theorem ggX4_fits_X4_columnWidth : GoodIn wsX4_fits wsX4_columnWidth := goodIn_r _ [57, 3, 58, 59, 60, 7, 61, 62, 63, 64, 65, 70, 71, 72, 73, 74, 75, 76, 77, 78, 79] (by decide +kernel) (by decide +kernel)
set_option maxRecDepth 20000 in
theorem gX4_fits_X4_columnWidth : GoodIn wsX4_fits (wsV RX4 131 RX4 yX4_columnWidth wsX4_columnWidth) := goodIn_app (goodIn_of _ (by decide +kernel)) ggX4_fits_X4_columnWidth
set_option maxRecDepth 20000 in
theorem ggX4_fits_X4_rowOf : GoodIn wsX4_fits wsX4_rowOf := goodIn_r _ [69, 58, 59, 60, 7, 61, 62, 63, 64, 65, 70, 71, 72, 73, 74, 75, 76, 77, 78, 79] (by decide +kernel) (by decide +kernel)
set_option maxRecDepth 20000 in
theorem gX4_fits_X4_rowOf : GoodIn wsX4_fits (wsV RX4 125 RX4 yX4_rowOf wsX4_rowOf) := goodIn_app (goodIn_of _ (by decide +kernel)) ggX4_fits_X4_rowOf
theorem dX4_fits_0 : decode cX4_fits 0 = .ok (.iload_n 2, 1) := by decide +kernel
theorem dX4_fits_1 : decode cX4_fits 1 = .ok (.ifCond .le 51, 3) := by decide +kernel
theorem dX4_fits_4 : decode cX4_fits 4 = .ok (.aload_n 0, 1) := by decide +kernel
theorem dX4_fits_5 : decode cX4_fits 5 = .ok (.iload_n 1, 1) := by decide +kernel
theorem dX4_fits_6 : decode cX4_fits 6 = .ok (.invokevirtual 119, 3) := by decide +kernel
theorem dX4_fits_9 : decode cX4_fits 9 = .ok (.iload_n 2, 1) := by decide +kernel
theorem dX4_fits_10 : decode cX4_fits 10 = .ok (.imul, 1) := by decide +kernel
theorem dX4_fits_11 : decode cX4_fits 11 = .ok (.aload_n 0, 1) := by decide +kernel
theorem dX4_fits_12 : decode cX4_fits 12 = .ok (.aload_n 0, 1) := by decide +kernel
theorem dX4_fits_13 : decode cX4_fits 13 = .ok (.getfield 25, 3) := by decide +kernel
theorem dX4_fits_16 : decode cX4_fits 16 = .ok (.invokevirtual 131, 3) := by decide +kernel
theorem dX4_fits_19 : decode cX4_fits 19 = .ok (.if_icmp .gt 33, 3) := by decide +kernel
theorem dX4_fits_22 : decode cX4_fits 22 = .ok (.bipush 12, 2) := by decide +kernel
theorem dX4_fits_24 : decode cX4_fits 24 = .ok (.iload_n 2, 1) := by decide +kernel
theorem dX4_fits_25 : decode cX4_fits 25 = .ok (.imul, 1) := by decide +kernel
theorem dX4_fits_26 : decode cX4_fits 26 = .ok (.aload_n 0, 1) := by decide +kernel
theorem dX4_fits_27 : decode cX4_fits 27 = .ok (.iload_n 1, 1) := by decide +kernel
theorem dX4_fits_28 : decode cX4_fits 28 = .ok (.invokevirtual 125, 3) := by decide +kernel
theorem dX4_fits_31 : decode cX4_fits 31 = .ok (.iconst 1, 1) := by decide +kernel
theorem dX4_fits_32 : decode cX4_fits 32 = .ok (.iadd, 1) := by decide +kernel
theorem dX4_fits_33 : decode cX4_fits 33 = .ok (.imul, 1) := by decide +kernel
theorem dX4_fits_34 : decode cX4_fits 34 = .ok (.aload_n 0, 1) := by decide +kernel
theorem dX4_fits_35 : decode cX4_fits 35 = .ok (.getfield 29, 3) := by decide +kernel
theorem dX4_fits_38 : decode cX4_fits 38 = .ok (.iconst 2, 1) := by decide +kernel
theorem dX4_fits_39 : decode cX4_fits 39 = .ok (.aload_n 0, 1) := by decide +kernel
theorem dX4_fits_40 : decode cX4_fits 40 = .ok (.getfield 32, 3) := by decide +kernel
theorem dX4_fits_43 : decode cX4_fits 43 = .ok (.imul, 1) := by decide +kernel
theorem dX4_fits_44 : decode cX4_fits 44 = .ok (.isub, 1) := by decide +kernel
theorem dX4_fits_45 : decode cX4_fits 45 = .ok (.if_icmp .gt 7, 3) := by decide +kernel
theorem dX4_fits_48 : decode cX4_fits 48 = .ok (.iconst 1, 1) := by decide +kernel
theorem dX4_fits_49 : decode cX4_fits 49 = .ok (.goto 4, 3) := by decide +kernel
theorem dX4_fits_52 : decode cX4_fits 52 = .ok (.iconst 0, 1) := by decide +kernel
theorem dX4_fits_53 : decode cX4_fits 53 = .ok (.ireturn, 1) := by decide +kernel
set_option maxRecDepth 20000 in
theorem ggX4_beginOf_X4_columnWidth : GoodIn wsX4_beginOf wsX4_columnWidth := goodIn_r _ [13, 14, 15, 16, 17, 12, 18, 19, 20, 21, 22, 87, 88, 89, 90, 91, 92, 93, 94, 95, 96] (by decide +kernel) (by decide +kernel)
set_option maxRecDepth 20000 in
theorem gX4_beginOf_X4_columnWidth : GoodIn wsX4_beginOf (wsV RX4 131 RX4 yX4_columnWidth wsX4_columnWidth) := goodIn_app (goodIn_of _ (by decide +kernel)) ggX4_beginOf_X4_columnWidth
set_option maxRecDepth 20000 in
theorem ggX4_beginOf_X4_columnBegin : GoodIn wsX4_beginOf wsX4_columnBegin := goodIn_r _ [26, 14, 1, 27, 28, 29, 12, 30, 15, 9, 10, 11, 13, 16, 17, 18, 19, 20, 21, 22, 87, 88, 89, 90, 91, 92, 93, 94, 95, 96] (by decide +kernel) (by decide +kernel)
set_option maxRecDepth 20000 in
theorem gX4_beginOf_X4_columnBegin : GoodIn wsX4_beginOf (wsV RX4 148 RX4 yX4_columnBegin wsX4_columnBegin) := goodIn_app (goodIn_of _ (by decide +kernel)) ggX4_beginOf_X4_columnBegin
set_option maxRecDepth 20000 in
theorem ggX4_beginOf_X4_inkOf : GoodIn wsX4_beginOf wsX4_inkOf := goodIn_r _ [34, 35, 36, 37, 38, 39, 40, 41, 42, 43, 44, 45, 46, 47, 48, 49, 50, 87, 88, 89, 90, 91, 92, 93, 94, 95, 96, 97, 98, 99] (by decide +kernel) (by decide +kernel)
set_option maxRecDepth 20000 in
theorem gX4_beginOf_X4_inkOf : GoodIn wsX4_beginOf (wsV RX4 151 RX4 yX4_inkOf wsX4_inkOf) := goodIn_app (goodIn_of _ (by decide +kernel)) ggX4_beginOf_X4_inkOf
set_option maxRecDepth 20000 in
theorem ggX4_beginOf_X4_twiceInkMoment : GoodIn wsX4_beginOf wsX4_twiceInkMoment := goodIn_r _ [54, 35, 36, 37, 38, 39, 40, 41, 42, 43, 44, 45, 46, 55, 56, 49, 57, 47, 48, 50, 58, 59, 60, 12, 61, 62, 6, 7, 4, 8, 63, 64, 65, 66, 67, 68, 69, 70, 71, 72, 73, 74, 75, 76, 77, 78, 87, 88, 89, 90, 91, 92, 93, 94, 95, 96, 97, 98, 99, 100, 101, 102, 103] (by decide +kernel) (by decide +kernel)
set_option maxRecDepth 20000 in
theorem gX4_beginOf_X4_twiceInkMoment : GoodIn wsX4_beginOf (wsV RX4 154 RX4 yX4_twiceInkMoment wsX4_twiceInkMoment) := goodIn_app (goodIn_of _ (by decide +kernel)) ggX4_beginOf_X4_twiceInkMoment
set_option maxRecDepth 20000 in
theorem ggX4_beginOf_X4_quotient : GoodIn wsX4_beginOf wsX4_quotient := goodIn_r _ [18, 19, 20, 21, 22] (by decide +kernel) (by decide +kernel)
set_option maxRecDepth 20000 in
theorem gX4_beginOf_X4_quotient : GoodIn wsX4_beginOf (va_wsS RX4 122 yX4_quotient wsX4_quotient) := goodIn_app (goodIn_of _ (by decide +kernel)) ggX4_beginOf_X4_quotient
set_option maxRecDepth 20000 in
theorem ggX4_beginOf_X4_unitsOf : GoodIn wsX4_beginOf wsX4_unitsOf := goodIn_r _ [82, 35, 36, 37, 38, 39, 40, 41, 83, 84, 85, 12, 86, 42, 43, 44, 45, 46, 55, 56, 49, 57, 58, 59, 60, 61, 62, 6, 7, 4, 8, 63, 64, 65, 66, 67, 68, 69, 70, 71, 72, 73, 74, 75, 76, 77, 78, 87, 88, 89, 90, 91, 92, 93, 94, 95, 96, 97, 98, 99, 100, 101, 102, 103] (by decide +kernel) (by decide +kernel)
set_option maxRecDepth 20000 in
theorem gX4_beginOf_X4_unitsOf : GoodIn wsX4_beginOf (wsV RX4 119 RX4 yX4_unitsOf wsX4_unitsOf) := goodIn_app (goodIn_of _ (by decide +kernel)) ggX4_beginOf_X4_unitsOf
theorem dX4_beginOf_0 : decode cX4_beginOf 0 = .ok (.aload_n 0, 1) := by decide +kernel
theorem dX4_beginOf_1 : decode cX4_beginOf 1 = .ok (.aload_n 0, 1) := by decide +kernel
theorem dX4_beginOf_2 : decode cX4_beginOf 2 = .ok (.getfield 25, 3) := by decide +kernel
theorem dX4_beginOf_5 : decode cX4_beginOf 5 = .ok (.invokevirtual 131, 3) := by decide +kernel
theorem dX4_beginOf_8 : decode cX4_beginOf 8 = .ok (.istore_n 3, 1) := by decide +kernel
theorem dX4_beginOf_9 : decode cX4_beginOf 9 = .ok (.aload_n 0, 1) := by decide +kernel
theorem dX4_beginOf_10 : decode cX4_beginOf 10 = .ok (.iload_n 1, 1) := by decide +kernel
theorem dX4_beginOf_11 : decode cX4_beginOf 11 = .ok (.invokevirtual 148, 3) := by decide +kernel
theorem dX4_beginOf_14 : decode cX4_beginOf 14 = .ok (.istore 4, 2) := by decide +kernel
theorem dX4_beginOf_16 : decode cX4_beginOf 16 = .ok (.aload_n 0, 1) := by decide +kernel
theorem dX4_beginOf_17 : decode cX4_beginOf 17 = .ok (.iload_n 1, 1) := by decide +kernel
theorem dX4_beginOf_18 : decode cX4_beginOf 18 = .ok (.invokevirtual 151, 3) := by decide +kernel
theorem dX4_beginOf_21 : decode cX4_beginOf 21 = .ok (.istore 5, 2) := by decide +kernel
theorem dX4_beginOf_23 : decode cX4_beginOf 23 = .ok (.iconst 2, 1) := by decide +kernel
theorem dX4_beginOf_24 : decode cX4_beginOf 24 = .ok (.iload 5, 2) := by decide +kernel
theorem dX4_beginOf_26 : decode cX4_beginOf 26 = .ok (.imul, 1) := by decide +kernel
theorem dX4_beginOf_27 : decode cX4_beginOf 27 = .ok (.istore 6, 2) := by decide +kernel
theorem dX4_beginOf_29 : decode cX4_beginOf 29 = .ok (.iload 5, 2) := by decide +kernel
theorem dX4_beginOf_31 : decode cX4_beginOf 31 = .ok (.iconst 2, 1) := by decide +kernel
theorem dX4_beginOf_32 : decode cX4_beginOf 32 = .ok (.iload 4, 2) := by decide +kernel
theorem dX4_beginOf_34 : decode cX4_beginOf 34 = .ok (.imul, 1) := by decide +kernel
theorem dX4_beginOf_35 : decode cX4_beginOf 35 = .ok (.iload_n 3, 1) := by decide +kernel
theorem dX4_beginOf_36 : decode cX4_beginOf 36 = .ok (.iadd, 1) := by decide +kernel
theorem dX4_beginOf_37 : decode cX4_beginOf 37 = .ok (.imul, 1) := by decide +kernel
theorem dX4_beginOf_38 : decode cX4_beginOf 38 = .ok (.iload_n 2, 1) := by decide +kernel
theorem dX4_beginOf_39 : decode cX4_beginOf 39 = .ok (.aload_n 0, 1) := by decide +kernel
theorem dX4_beginOf_40 : decode cX4_beginOf 40 = .ok (.iload_n 1, 1) := by decide +kernel
theorem dX4_beginOf_41 : decode cX4_beginOf 41 = .ok (.invokevirtual 154, 3) := by decide +kernel
theorem dX4_beginOf_44 : decode cX4_beginOf 44 = .ok (.imul, 1) := by decide +kernel
theorem dX4_beginOf_45 : decode cX4_beginOf 45 = .ok (.isub, 1) := by decide +kernel
theorem dX4_beginOf_46 : decode cX4_beginOf 46 = .ok (.iload 6, 2) := by decide +kernel
theorem dX4_beginOf_48 : decode cX4_beginOf 48 = .ok (.invokestatic 122, 3) := by decide +kernel
theorem dX4_beginOf_51 : decode cX4_beginOf 51 = .ok (.istore 7, 2) := by decide +kernel
theorem dX4_beginOf_53 : decode cX4_beginOf 53 = .ok (.iload 4, 2) := by decide +kernel
theorem dX4_beginOf_55 : decode cX4_beginOf 55 = .ok (.iload_n 3, 1) := by decide +kernel
theorem dX4_beginOf_56 : decode cX4_beginOf 56 = .ok (.iadd, 1) := by decide +kernel
theorem dX4_beginOf_57 : decode cX4_beginOf 57 = .ok (.aload_n 0, 1) := by decide +kernel
theorem dX4_beginOf_58 : decode cX4_beginOf 58 = .ok (.iload_n 1, 1) := by decide +kernel
theorem dX4_beginOf_59 : decode cX4_beginOf 59 = .ok (.invokevirtual 119, 3) := by decide +kernel
theorem dX4_beginOf_62 : decode cX4_beginOf 62 = .ok (.iload_n 2, 1) := by decide +kernel
theorem dX4_beginOf_63 : decode cX4_beginOf 63 = .ok (.imul, 1) := by decide +kernel
theorem dX4_beginOf_64 : decode cX4_beginOf 64 = .ok (.isub, 1) := by decide +kernel
theorem dX4_beginOf_65 : decode cX4_beginOf 65 = .ok (.istore 8, 2) := by decide +kernel
theorem dX4_beginOf_67 : decode cX4_beginOf 67 = .ok (.iload 4, 2) := by decide +kernel
theorem dX4_beginOf_69 : decode cX4_beginOf 69 = .ok (.iload 7, 2) := by decide +kernel
theorem dX4_beginOf_71 : decode cX4_beginOf 71 = .ok (.iload 8, 2) := by decide +kernel
theorem dX4_beginOf_73 : decode cX4_beginOf 73 = .ok (.invokestatic 157, 3) := by decide +kernel
theorem dX4_beginOf_76 : decode cX4_beginOf 76 = .ok (.invokestatic 102, 3) := by decide +kernel
theorem dX4_beginOf_79 : decode cX4_beginOf 79 = .ok (.ireturn, 1) := by decide +kernel
set_option maxRecDepth 20000 in
theorem ggX4_twiceInkMoment_X1_lengthOf : GoodIn wsX4_twiceInkMoment wsX1_lengthOf := goodIn_r _ [6, 7, 56, 57, 58] (by decide +kernel) (by decide +kernel)
set_option maxRecDepth 20000 in
theorem gX4_twiceInkMoment_X1_lengthOf : GoodIn wsX4_twiceInkMoment (wsV RX4 82 RX1 yX1_lengthOf wsX1_lengthOf) := goodIn_app (goodIn_of _ (by decide +kernel)) ggX4_twiceInkMoment_X1_lengthOf
set_option maxRecDepth 20000 in
theorem ggX4_twiceInkMoment_X1_codeAt : GoodIn wsX4_twiceInkMoment wsX1_codeAt := goodIn_r _ [11, 12, 56, 57, 58] (by decide +kernel) (by decide +kernel)
set_option maxRecDepth 20000 in
theorem gX4_twiceInkMoment_X1_codeAt : GoodIn wsX4_twiceInkMoment (wsV RX4 85 RX1 yX1_codeAt wsX1_codeAt) := goodIn_app (goodIn_of _ (by decide +kernel)) ggX4_twiceInkMoment_X1_codeAt
set_option maxRecDepth 20000 in
theorem ggX4_twiceInkMoment_X3_width : GoodIn wsX4_twiceInkMoment wsX3_width := goodIn_r _ [16] (by decide +kernel) (by decide +kernel)
set_option maxRecDepth 20000 in
theorem gX4_twiceInkMoment_X3_width : GoodIn wsX4_twiceInkMoment (va_wsS RX4 111 yX3_width wsX3_width) := goodIn_app (goodIn_of _ (by decide +kernel)) ggX4_twiceInkMoment_X3_width
set_option maxRecDepth 20000 in
theorem ggX4_twiceInkMoment_X3_ink : GoodIn wsX4_twiceInkMoment wsX3_ink := goodIn_r _ [19] (by decide +kernel) (by decide +kernel)
set_option maxRecDepth 20000 in
theorem gX4_twiceInkMoment_X3_ink : GoodIn wsX4_twiceInkMoment (va_wsS RX4 116 yX3_ink wsX3_ink) := goodIn_app (goodIn_of _ (by decide +kernel)) ggX4_twiceInkMoment_X3_ink
set_option maxRecDepth 20000 in
theorem ggX4_twiceInkMoment_X4_spaceBehind : GoodIn wsX4_twiceInkMoment wsX4_spaceBehind := goodIn_r _ [24, 1, 25, 26, 27, 28, 29, 2, 3, 4, 5, 6, 7, 8, 9, 10, 11, 12, 30, 31, 32, 33, 34, 35, 36, 37, 38, 39, 40, 41, 42, 43, 44, 15, 45, 46, 47, 48, 49, 50, 51, 52, 53, 54, 55, 56, 57, 58, 59, 60, 61, 62] (by decide +kernel) (by decide +kernel)
set_option maxRecDepth 20000 in
theorem gX4_twiceInkMoment_X4_spaceBehind : GoodIn wsX4_twiceInkMoment (wsV RX4 108 RX4 yX4_spaceBehind wsX4_spaceBehind) := goodIn_app (goodIn_of _ (by decide +kernel)) ggX4_twiceInkMoment_X4_spaceBehind
theorem dX4_twiceInkMoment_0 : decode cX4_twiceInkMoment 0 = .ok (.iconst 0, 1) := by decide +kernel
theorem dX4_twiceInkMoment_1 : decode cX4_twiceInkMoment 1 = .ok (.istore_n 2, 1) := by decide +kernel
theorem dX4_twiceInkMoment_2 : decode cX4_twiceInkMoment 2 = .ok (.iconst 0, 1) := by decide +kernel
theorem dX4_twiceInkMoment_3 : decode cX4_twiceInkMoment 3 = .ok (.istore_n 3, 1) := by decide +kernel
theorem dX4_twiceInkMoment_4 : decode cX4_twiceInkMoment 4 = .ok (.iconst 0, 1) := by decide +kernel
theorem dX4_twiceInkMoment_5 : decode cX4_twiceInkMoment 5 = .ok (.istore 4, 2) := by decide +kernel
theorem dX4_twiceInkMoment_7 : decode cX4_twiceInkMoment 7 = .ok (.iload 4, 2) := by decide +kernel
theorem dX4_twiceInkMoment_9 : decode cX4_twiceInkMoment 9 = .ok (.aload_n 0, 1) := by decide +kernel
theorem dX4_twiceInkMoment_10 : decode cX4_twiceInkMoment 10 = .ok (.getfield 12, 3) := by decide +kernel
theorem dX4_twiceInkMoment_13 : decode cX4_twiceInkMoment 13 = .ok (.iload_n 1, 1) := by decide +kernel
theorem dX4_twiceInkMoment_14 : decode cX4_twiceInkMoment 14 = .ok (.invokevirtual 82, 3) := by decide +kernel
theorem dX4_twiceInkMoment_17 : decode cX4_twiceInkMoment 17 = .ok (.if_icmp .ge 56, 3) := by decide +kernel
theorem dX4_twiceInkMoment_20 : decode cX4_twiceInkMoment 20 = .ok (.aload_n 0, 1) := by decide +kernel
theorem dX4_twiceInkMoment_21 : decode cX4_twiceInkMoment 21 = .ok (.getfield 12, 3) := by decide +kernel
theorem dX4_twiceInkMoment_24 : decode cX4_twiceInkMoment 24 = .ok (.iload_n 1, 1) := by decide +kernel
theorem dX4_twiceInkMoment_25 : decode cX4_twiceInkMoment 25 = .ok (.iload 4, 2) := by decide +kernel
theorem dX4_twiceInkMoment_27 : decode cX4_twiceInkMoment 27 = .ok (.invokevirtual 85, 3) := by decide +kernel
theorem dX4_twiceInkMoment_30 : decode cX4_twiceInkMoment 30 = .ok (.istore 5, 2) := by decide +kernel
theorem dX4_twiceInkMoment_32 : decode cX4_twiceInkMoment 32 = .ok (.iload 5, 2) := by decide +kernel
theorem dX4_twiceInkMoment_34 : decode cX4_twiceInkMoment 34 = .ok (.invokestatic 111, 3) := by decide +kernel
theorem dX4_twiceInkMoment_37 : decode cX4_twiceInkMoment 37 = .ok (.istore 6, 2) := by decide +kernel
theorem dX4_twiceInkMoment_39 : decode cX4_twiceInkMoment 39 = .ok (.iload_n 2, 1) := by decide +kernel
theorem dX4_twiceInkMoment_40 : decode cX4_twiceInkMoment 40 = .ok (.iload 5, 2) := by decide +kernel
theorem dX4_twiceInkMoment_42 : decode cX4_twiceInkMoment 42 = .ok (.invokestatic 116, 3) := by decide +kernel
theorem dX4_twiceInkMoment_45 : decode cX4_twiceInkMoment 45 = .ok (.iconst 2, 1) := by decide +kernel
theorem dX4_twiceInkMoment_46 : decode cX4_twiceInkMoment 46 = .ok (.iload_n 3, 1) := by decide +kernel
theorem dX4_twiceInkMoment_47 : decode cX4_twiceInkMoment 47 = .ok (.imul, 1) := by decide +kernel
theorem dX4_twiceInkMoment_48 : decode cX4_twiceInkMoment 48 = .ok (.iload 6, 2) := by decide +kernel
theorem dX4_twiceInkMoment_50 : decode cX4_twiceInkMoment 50 = .ok (.iadd, 1) := by decide +kernel
theorem dX4_twiceInkMoment_51 : decode cX4_twiceInkMoment 51 = .ok (.imul, 1) := by decide +kernel
theorem dX4_twiceInkMoment_52 : decode cX4_twiceInkMoment 52 = .ok (.iadd, 1) := by decide +kernel
theorem dX4_twiceInkMoment_53 : decode cX4_twiceInkMoment 53 = .ok (.istore_n 2, 1) := by decide +kernel
theorem dX4_twiceInkMoment_54 : decode cX4_twiceInkMoment 54 = .ok (.iload_n 3, 1) := by decide +kernel
theorem dX4_twiceInkMoment_55 : decode cX4_twiceInkMoment 55 = .ok (.iload 6, 2) := by decide +kernel
theorem dX4_twiceInkMoment_57 : decode cX4_twiceInkMoment 57 = .ok (.aload_n 0, 1) := by decide +kernel
theorem dX4_twiceInkMoment_58 : decode cX4_twiceInkMoment 58 = .ok (.iload_n 1, 1) := by decide +kernel
theorem dX4_twiceInkMoment_59 : decode cX4_twiceInkMoment 59 = .ok (.iload 4, 2) := by decide +kernel
theorem dX4_twiceInkMoment_61 : decode cX4_twiceInkMoment 61 = .ok (.invokevirtual 108, 3) := by decide +kernel
theorem dX4_twiceInkMoment_64 : decode cX4_twiceInkMoment 64 = .ok (.iadd, 1) := by decide +kernel
theorem dX4_twiceInkMoment_65 : decode cX4_twiceInkMoment 65 = .ok (.iadd, 1) := by decide +kernel
theorem dX4_twiceInkMoment_66 : decode cX4_twiceInkMoment 66 = .ok (.istore_n 3, 1) := by decide +kernel
theorem dX4_twiceInkMoment_67 : decode cX4_twiceInkMoment 67 = .ok (.iinc 4 1, 3) := by decide +kernel
theorem dX4_twiceInkMoment_70 : decode cX4_twiceInkMoment 70 = .ok (.goto (-63), 3) := by decide +kernel
theorem dX4_twiceInkMoment_73 : decode cX4_twiceInkMoment 73 = .ok (.iload_n 2, 1) := by decide +kernel
theorem dX4_twiceInkMoment_74 : decode cX4_twiceInkMoment 74 = .ok (.ireturn, 1) := by decide +kernel
set_option maxRecDepth 20000 in
theorem ggX4_middleBegin_X4_columnBegin : GoodIn wsX4_middleBegin wsX4_columnBegin := goodIn_r _ [10, 11, 1, 12, 13, 14, 9, 15, 16, 17, 18, 19, 20, 21, 22, 23, 24, 25, 26, 27, 73, 74, 75, 76, 77, 78, 79, 80, 81, 82] (by decide +kernel) (by decide +kernel)
set_option maxRecDepth 20000 in
theorem gX4_middleBegin_X4_columnBegin : GoodIn wsX4_middleBegin (wsV RX4 148 RX4 yX4_columnBegin wsX4_columnBegin) := goodIn_app (goodIn_of _ (by decide +kernel)) ggX4_middleBegin_X4_columnBegin
set_option maxRecDepth 20000 in
theorem ggX4_middleBegin_X4_columnWidth : GoodIn wsX4_middleBegin wsX4_columnWidth := goodIn_r _ [20, 11, 16, 21, 22, 9, 23, 24, 25, 26, 27, 73, 74, 75, 76, 77, 78, 79, 80, 81, 82] (by decide +kernel) (by decide +kernel)
set_option maxRecDepth 20000 in
theorem gX4_middleBegin_X4_columnWidth : GoodIn wsX4_middleBegin (wsV RX4 131 RX4 yX4_columnWidth wsX4_columnWidth) := goodIn_app (goodIn_of _ (by decide +kernel)) ggX4_middleBegin_X4_columnWidth
set_option maxRecDepth 20000 in
theorem ggX4_middleBegin_X4_unitsOf : GoodIn wsX4_middleBegin wsX4_unitsOf := goodIn_r _ [31, 32, 33, 34, 35, 36, 37, 38, 39, 40, 41, 9, 42, 43, 44, 45, 46, 47, 48, 49, 50, 51, 52, 53, 54, 55, 56, 2, 3, 4, 5, 57, 58, 59, 60, 61, 62, 63, 64, 65, 66, 67, 68, 69, 70, 71, 72, 73, 74, 75, 76, 77, 78, 79, 80, 81, 82, 83, 84, 85, 86, 87, 88, 89] (by decide +kernel) (by decide +kernel)
set_option maxRecDepth 20000 in
theorem gX4_middleBegin_X4_unitsOf : GoodIn wsX4_middleBegin (wsV RX4 119 RX4 yX4_unitsOf wsX4_unitsOf) := goodIn_app (goodIn_of _ (by decide +kernel)) ggX4_middleBegin_X4_unitsOf
set_option maxRecDepth 20000 in
theorem ggX4_middleBegin_J9_floorDiv_7cf53 : GoodIn wsX4_middleBegin wsJ9_floorDiv_7cf53 := goodIn_r _ [27] (by decide +kernel) (by decide +kernel)
set_option maxRecDepth 20000 in
theorem gX4_middleBegin_J9_floorDiv_7cf53 : GoodIn wsX4_middleBegin (va_wsS RX4 160 yJ9_floorDiv_7cf53 wsJ9_floorDiv_7cf53) := goodIn_app (goodIn_of _ (by decide +kernel)) ggX4_middleBegin_J9_floorDiv_7cf53
theorem dX4_middleBegin_0 : decode cX4_middleBegin 0 = .ok (.aload_n 0, 1) := by decide +kernel
theorem dX4_middleBegin_1 : decode cX4_middleBegin 1 = .ok (.iload_n 1, 1) := by decide +kernel
theorem dX4_middleBegin_2 : decode cX4_middleBegin 2 = .ok (.invokevirtual 148, 3) := by decide +kernel
theorem dX4_middleBegin_5 : decode cX4_middleBegin 5 = .ok (.istore_n 3, 1) := by decide +kernel
theorem dX4_middleBegin_6 : decode cX4_middleBegin 6 = .ok (.aload_n 0, 1) := by decide +kernel
theorem dX4_middleBegin_7 : decode cX4_middleBegin 7 = .ok (.aload_n 0, 1) := by decide +kernel
theorem dX4_middleBegin_8 : decode cX4_middleBegin 8 = .ok (.getfield 25, 3) := by decide +kernel
theorem dX4_middleBegin_11 : decode cX4_middleBegin 11 = .ok (.invokevirtual 131, 3) := by decide +kernel
theorem dX4_middleBegin_14 : decode cX4_middleBegin 14 = .ok (.aload_n 0, 1) := by decide +kernel
theorem dX4_middleBegin_15 : decode cX4_middleBegin 15 = .ok (.iload_n 1, 1) := by decide +kernel
theorem dX4_middleBegin_16 : decode cX4_middleBegin 16 = .ok (.invokevirtual 119, 3) := by decide +kernel
theorem dX4_middleBegin_19 : decode cX4_middleBegin 19 = .ok (.iload_n 2, 1) := by decide +kernel
theorem dX4_middleBegin_20 : decode cX4_middleBegin 20 = .ok (.imul, 1) := by decide +kernel
theorem dX4_middleBegin_21 : decode cX4_middleBegin 21 = .ok (.isub, 1) := by decide +kernel
theorem dX4_middleBegin_22 : decode cX4_middleBegin 22 = .ok (.istore 4, 2) := by decide +kernel
theorem dX4_middleBegin_24 : decode cX4_middleBegin 24 = .ok (.iload_n 3, 1) := by decide +kernel
theorem dX4_middleBegin_25 : decode cX4_middleBegin 25 = .ok (.iload_n 3, 1) := by decide +kernel
theorem dX4_middleBegin_26 : decode cX4_middleBegin 26 = .ok (.iload 4, 2) := by decide +kernel
theorem dX4_middleBegin_28 : decode cX4_middleBegin 28 = .ok (.iconst 2, 1) := by decide +kernel
theorem dX4_middleBegin_29 : decode cX4_middleBegin 29 = .ok (.invokestatic 160, 3) := by decide +kernel
theorem dX4_middleBegin_32 : decode cX4_middleBegin 32 = .ok (.iadd, 1) := by decide +kernel
theorem dX4_middleBegin_33 : decode cX4_middleBegin 33 = .ok (.invokestatic 102, 3) := by decide +kernel
theorem dX4_middleBegin_36 : decode cX4_middleBegin 36 = .ok (.ireturn, 1) := by decide +kernel
set_option maxRecDepth 20000 in
theorem ggX4_indexAt_X4_beginOf : GoodIn wsX4_indexAt wsX4_beginOf := goodIn_r _ [6, 7, 8, 9, 10, 11, 12, 13, 14, 15, 16, 17, 5, 18, 19, 20, 21, 22, 23, 24, 25, 26, 27, 28, 29, 30, 31, 32, 33, 34, 35, 36, 37, 38, 39, 1, 40, 41, 42, 43, 44, 45, 46, 47, 48, 49, 50, 51, 52, 53, 54, 55, 56, 57, 58, 59, 60, 61, 62, 63, 64, 65, 66, 67, 68, 69, 70, 71, 72, 73, 74, 75, 76, 77, 78, 79, 80, 81, 82, 83, 84, 85, 86, 87, 88, 89, 90, 91, 92, 93, 94, 95, 96, 97, 98, 99, 100, 101, 102, 103, 104, 105, 106, 107] (by decide +kernel) (by decide +kernel)
set_option maxRecDepth 20000 in
theorem gX4_indexAt_X4_beginOf : GoodIn wsX4_indexAt (wsV RX4 163 RX4 yX4_beginOf wsX4_beginOf) := goodIn_app (goodIn_of _ (by decide +kernel)) ggX4_indexAt_X4_beginOf
set_option maxRecDepth 20000 in
theorem ggX4_indexAt_X1_lengthOf : GoodIn wsX4_indexAt wsX1_lengthOf := goodIn_r _ [44, 45, 101, 102, 103] (by decide +kernel) (by decide +kernel)
set_option maxRecDepth 20000 in
theorem gX4_indexAt_X1_lengthOf : GoodIn wsX4_indexAt (wsV RX4 82 RX1 yX1_lengthOf wsX1_lengthOf) := goodIn_app (goodIn_of _ (by decide +kernel)) ggX4_indexAt_X1_lengthOf
set_option maxRecDepth 20000 in
theorem ggX4_indexAt_X1_codeAt : GoodIn wsX4_indexAt wsX1_codeAt := goodIn_r _ [49, 50, 101, 102, 103] (by decide +kernel) (by decide +kernel)
set_option maxRecDepth 20000 in
theorem gX4_indexAt_X1_codeAt : GoodIn wsX4_indexAt (wsV RX4 85 RX1 yX1_codeAt wsX1_codeAt) := goodIn_app (goodIn_of _ (by decide +kernel)) ggX4_indexAt_X1_codeAt
set_option maxRecDepth 20000 in
theorem ggX4_indexAt_X3_width : GoodIn wsX4_indexAt wsX3_width := goodIn_r _ [61] (by decide +kernel) (by decide +kernel)
set_option maxRecDepth 20000 in
theorem gX4_indexAt_X3_width : GoodIn wsX4_indexAt (va_wsS RX4 111 yX3_width wsX3_width) := goodIn_app (goodIn_of _ (by decide +kernel)) ggX4_indexAt_X3_width
set_option maxRecDepth 20000 in
theorem ggX4_indexAt_X4_spaceBehind : GoodIn wsX4_indexAt wsX4_spaceBehind := goodIn_r _ [65, 1, 66, 12, 13, 10, 14, 40, 41, 42, 43, 44, 45, 46, 47, 48, 49, 50, 67, 68, 69, 70, 71, 72, 73, 74, 75, 76, 77, 78, 79, 80, 81, 53, 82, 91, 92, 93, 94, 95, 96, 97, 98, 99, 100, 101, 102, 103, 104, 105, 106, 107] (by decide +kernel) (by decide +kernel)
set_option maxRecDepth 20000 in
theorem gX4_indexAt_X4_spaceBehind : GoodIn wsX4_indexAt (wsV RX4 108 RX4 yX4_spaceBehind wsX4_spaceBehind) := goodIn_app (goodIn_of _ (by decide +kernel)) ggX4_indexAt_X4_spaceBehind
theorem dX4_indexAt_0 : decode cX4_indexAt 0 = .ok (.aload_n 0, 1) := by decide +kernel
theorem dX4_indexAt_1 : decode cX4_indexAt 1 = .ok (.iload_n 1, 1) := by decide +kernel
theorem dX4_indexAt_2 : decode cX4_indexAt 2 = .ok (.iload_n 3, 1) := by decide +kernel
theorem dX4_indexAt_3 : decode cX4_indexAt 3 = .ok (.invokevirtual 163, 3) := by decide +kernel
theorem dX4_indexAt_6 : decode cX4_indexAt 6 = .ok (.istore 4, 2) := by decide +kernel
theorem dX4_indexAt_8 : decode cX4_indexAt 8 = .ok (.iconst 0, 1) := by decide +kernel
theorem dX4_indexAt_9 : decode cX4_indexAt 9 = .ok (.istore 5, 2) := by decide +kernel
theorem dX4_indexAt_11 : decode cX4_indexAt 11 = .ok (.iload 5, 2) := by decide +kernel
theorem dX4_indexAt_13 : decode cX4_indexAt 13 = .ok (.aload_n 0, 1) := by decide +kernel
theorem dX4_indexAt_14 : decode cX4_indexAt 14 = .ok (.getfield 12, 3) := by decide +kernel
theorem dX4_indexAt_17 : decode cX4_indexAt 17 = .ok (.iload_n 1, 1) := by decide +kernel
theorem dX4_indexAt_18 : decode cX4_indexAt 18 = .ok (.invokevirtual 82, 3) := by decide +kernel
theorem dX4_indexAt_21 : decode cX4_indexAt 21 = .ok (.if_icmp .ge 58, 3) := by decide +kernel
theorem dX4_indexAt_24 : decode cX4_indexAt 24 = .ok (.iload 4, 2) := by decide +kernel
theorem dX4_indexAt_26 : decode cX4_indexAt 26 = .ok (.aload_n 0, 1) := by decide +kernel
theorem dX4_indexAt_27 : decode cX4_indexAt 27 = .ok (.getfield 12, 3) := by decide +kernel
theorem dX4_indexAt_30 : decode cX4_indexAt 30 = .ok (.iload_n 1, 1) := by decide +kernel
theorem dX4_indexAt_31 : decode cX4_indexAt 31 = .ok (.iload 5, 2) := by decide +kernel
theorem dX4_indexAt_33 : decode cX4_indexAt 33 = .ok (.invokevirtual 85, 3) := by decide +kernel
theorem dX4_indexAt_36 : decode cX4_indexAt 36 = .ok (.invokestatic 111, 3) := by decide +kernel
theorem dX4_indexAt_39 : decode cX4_indexAt 39 = .ok (.iload_n 3, 1) := by decide +kernel
theorem dX4_indexAt_40 : decode cX4_indexAt 40 = .ok (.imul, 1) := by decide +kernel
theorem dX4_indexAt_41 : decode cX4_indexAt 41 = .ok (.iadd, 1) := by decide +kernel
theorem dX4_indexAt_42 : decode cX4_indexAt 42 = .ok (.istore 6, 2) := by decide +kernel
theorem dX4_indexAt_44 : decode cX4_indexAt 44 = .ok (.iload_n 2, 1) := by decide +kernel
theorem dX4_indexAt_45 : decode cX4_indexAt 45 = .ok (.iload 4, 2) := by decide +kernel
theorem dX4_indexAt_47 : decode cX4_indexAt 47 = .ok (.if_icmp .lt 12, 3) := by decide +kernel
theorem dX4_indexAt_50 : decode cX4_indexAt 50 = .ok (.iload_n 2, 1) := by decide +kernel
theorem dX4_indexAt_51 : decode cX4_indexAt 51 = .ok (.iload 6, 2) := by decide +kernel
theorem dX4_indexAt_53 : decode cX4_indexAt 53 = .ok (.if_icmp .ge 6, 3) := by decide +kernel
theorem dX4_indexAt_56 : decode cX4_indexAt 56 = .ok (.iload 5, 2) := by decide +kernel
theorem dX4_indexAt_58 : decode cX4_indexAt 58 = .ok (.ireturn, 1) := by decide +kernel
theorem dX4_indexAt_59 : decode cX4_indexAt 59 = .ok (.iload 6, 2) := by decide +kernel
theorem dX4_indexAt_61 : decode cX4_indexAt 61 = .ok (.aload_n 0, 1) := by decide +kernel
theorem dX4_indexAt_62 : decode cX4_indexAt 62 = .ok (.iload_n 1, 1) := by decide +kernel
theorem dX4_indexAt_63 : decode cX4_indexAt 63 = .ok (.iload 5, 2) := by decide +kernel
theorem dX4_indexAt_65 : decode cX4_indexAt 65 = .ok (.invokevirtual 108, 3) := by decide +kernel
theorem dX4_indexAt_68 : decode cX4_indexAt 68 = .ok (.iload_n 3, 1) := by decide +kernel
theorem dX4_indexAt_69 : decode cX4_indexAt 69 = .ok (.imul, 1) := by decide +kernel
theorem dX4_indexAt_70 : decode cX4_indexAt 70 = .ok (.iadd, 1) := by decide +kernel
theorem dX4_indexAt_71 : decode cX4_indexAt 71 = .ok (.istore 4, 2) := by decide +kernel
theorem dX4_indexAt_73 : decode cX4_indexAt 73 = .ok (.iinc 5 1, 3) := by decide +kernel
theorem dX4_indexAt_76 : decode cX4_indexAt 76 = .ok (.goto (-65), 3) := by decide +kernel
theorem dX4_indexAt_79 : decode cX4_indexAt 79 = .ok (.iconst (-1), 1) := by decide +kernel
theorem dX4_indexAt_80 : decode cX4_indexAt 80 = .ok (.ireturn, 1) := by decide +kernel
set_option maxRecDepth 20000 in
theorem ggX4_quotient_J9_floorDiv_7cf53 : GoodIn wsX4_quotient wsJ9_floorDiv_7cf53 := goodIn_r _ [4] (by decide +kernel) (by decide +kernel)
set_option maxRecDepth 20000 in
theorem gX4_quotient_J9_floorDiv_7cf53 : GoodIn wsX4_quotient (va_wsS RX4 160 yJ9_floorDiv_7cf53 wsJ9_floorDiv_7cf53) := goodIn_app (goodIn_of _ (by decide +kernel)) ggX4_quotient_J9_floorDiv_7cf53
theorem dX4_quotient_0 : decode cX4_quotient 0 = .ok (.iload_n 1, 1) := by decide +kernel
theorem dX4_quotient_1 : decode cX4_quotient 1 = .ok (.ifCond .le 11, 3) := by decide +kernel
theorem dX4_quotient_4 : decode cX4_quotient 4 = .ok (.iload_n 0, 1) := by decide +kernel
theorem dX4_quotient_5 : decode cX4_quotient 5 = .ok (.iload_n 1, 1) := by decide +kernel
theorem dX4_quotient_6 : decode cX4_quotient 6 = .ok (.invokestatic 160, 3) := by decide +kernel
theorem dX4_quotient_9 : decode cX4_quotient 9 = .ok (.goto 4, 3) := by decide +kernel
theorem dX4_quotient_12 : decode cX4_quotient 12 = .ok (.iconst 0, 1) := by decide +kernel
theorem dX4_quotient_13 : decode cX4_quotient 13 = .ok (.ireturn, 1) := by decide +kernel
theorem dX5_init_0 : decode cX5_init 0 = .ok (.aload_n 0, 1) := by decide +kernel
theorem dX5_init_1 : decode cX5_init 1 = .ok (.invokespecial 3, 3) := by decide +kernel
theorem dX5_init_4 : decode cX5_init 4 = .ok (.aload_n 0, 1) := by decide +kernel
theorem dX5_init_5 : decode cX5_init 5 = .ok (.bipush 60, 2) := by decide +kernel
theorem dX5_init_7 : decode cX5_init 7 = .ok (.newarray .char, 2) := by decide +kernel
theorem dX5_init_9 : decode cX5_init 9 = .ok (.putfield 9, 3) := by decide +kernel
theorem dX5_init_12 : decode cX5_init 12 = .ok (.aload_n 0, 1) := by decide +kernel
theorem dX5_init_13 : decode cX5_init 13 = .ok (.iconst 0, 1) := by decide +kernel
theorem dX5_init_14 : decode cX5_init 14 = .ok (.putfield 15, 3) := by decide +kernel
theorem dX5_init_17 : decode cX5_init 17 = .ok (.return_, 1) := by decide +kernel
theorem dX5_isFull_0 : decode cX5_isFull 0 = .ok (.aload_n 0, 1) := by decide +kernel
theorem dX5_isFull_1 : decode cX5_isFull 1 = .ok (.getfield 15, 3) := by decide +kernel
theorem dX5_isFull_4 : decode cX5_isFull 4 = .ok (.bipush 60, 2) := by decide +kernel
theorem dX5_isFull_6 : decode cX5_isFull 6 = .ok (.if_icmp .lt 7, 3) := by decide +kernel
theorem dX5_isFull_9 : decode cX5_isFull 9 = .ok (.iconst 1, 1) := by decide +kernel
theorem dX5_isFull_10 : decode cX5_isFull 10 = .ok (.goto 4, 3) := by decide +kernel
theorem dX5_isFull_13 : decode cX5_isFull 13 = .ok (.iconst 0, 1) := by decide +kernel
theorem dX5_isFull_14 : decode cX5_isFull 14 = .ok (.ireturn, 1) := by decide +kernel
theorem dX5_append_0 : decode cX5_append 0 = .ok (.aload_n 0, 1) := by decide +kernel
theorem dX5_append_1 : decode cX5_append 1 = .ok (.getfield 15, 3) := by decide +kernel
theorem dX5_append_4 : decode cX5_append 4 = .ok (.ifCond .lt 35, 3) := by decide +kernel
theorem dX5_append_7 : decode cX5_append 7 = .ok (.aload_n 0, 1) := by decide +kernel
theorem dX5_append_8 : decode cX5_append 8 = .ok (.getfield 15, 3) := by decide +kernel
theorem dX5_append_11 : decode cX5_append 11 = .ok (.aload_n 0, 1) := by decide +kernel
theorem dX5_append_12 : decode cX5_append 12 = .ok (.getfield 9, 3) := by decide +kernel
theorem dX5_append_15 : decode cX5_append 15 = .ok (.arraylength, 1) := by decide +kernel
theorem dX5_append_16 : decode cX5_append 16 = .ok (.if_icmp .ge 23, 3) := by decide +kernel
theorem dX5_append_19 : decode cX5_append 19 = .ok (.aload_n 0, 1) := by decide +kernel
theorem dX5_append_20 : decode cX5_append 20 = .ok (.getfield 9, 3) := by decide +kernel
theorem dX5_append_23 : decode cX5_append 23 = .ok (.aload_n 0, 1) := by decide +kernel
theorem dX5_append_24 : decode cX5_append 24 = .ok (.getfield 15, 3) := by decide +kernel
theorem dX5_append_27 : decode cX5_append 27 = .ok (.iload_n 1, 1) := by decide +kernel
theorem dX5_append_28 : decode cX5_append 28 = .ok (.castore, 1) := by decide +kernel
theorem dX5_append_29 : decode cX5_append 29 = .ok (.aload_n 0, 1) := by decide +kernel
theorem dX5_append_30 : decode cX5_append 30 = .ok (.dup, 1) := by decide +kernel
theorem dX5_append_31 : decode cX5_append 31 = .ok (.getfield 15, 3) := by decide +kernel
theorem dX5_append_34 : decode cX5_append 34 = .ok (.iconst 1, 1) := by decide +kernel
theorem dX5_append_35 : decode cX5_append 35 = .ok (.iadd, 1) := by decide +kernel
theorem dX5_append_36 : decode cX5_append 36 = .ok (.putfield 15, 3) := by decide +kernel
theorem dX5_append_39 : decode cX5_append 39 = .ok (.return_, 1) := by decide +kernel
theorem dX5_characterAt_0 : decode cX5_characterAt 0 = .ok (.iload_n 1, 1) := by decide +kernel
theorem dX5_characterAt_1 : decode cX5_characterAt 1 = .ok (.ifCond .lt 21, 3) := by decide +kernel
theorem dX5_characterAt_4 : decode cX5_characterAt 4 = .ok (.iload_n 1, 1) := by decide +kernel
theorem dX5_characterAt_5 : decode cX5_characterAt 5 = .ok (.aload_n 0, 1) := by decide +kernel
theorem dX5_characterAt_6 : decode cX5_characterAt 6 = .ok (.getfield 9, 3) := by decide +kernel
theorem dX5_characterAt_9 : decode cX5_characterAt 9 = .ok (.arraylength, 1) := by decide +kernel
theorem dX5_characterAt_10 : decode cX5_characterAt 10 = .ok (.if_icmp .ge 12, 3) := by decide +kernel
theorem dX5_characterAt_13 : decode cX5_characterAt 13 = .ok (.aload_n 0, 1) := by decide +kernel
theorem dX5_characterAt_14 : decode cX5_characterAt 14 = .ok (.getfield 9, 3) := by decide +kernel
theorem dX5_characterAt_17 : decode cX5_characterAt 17 = .ok (.iload_n 1, 1) := by decide +kernel
theorem dX5_characterAt_18 : decode cX5_characterAt 18 = .ok (.caload, 1) := by decide +kernel
theorem dX5_characterAt_19 : decode cX5_characterAt 19 = .ok (.goto 5, 3) := by decide +kernel
theorem dX5_characterAt_22 : decode cX5_characterAt 22 = .ok (.bipush 59, 2) := by decide +kernel
theorem dX5_characterAt_24 : decode cX5_characterAt 24 = .ok (.ireturn, 1) := by decide +kernel
set_option maxRecDepth 20000 in
theorem ggX5_namesInIt_X5_characterAt : GoodIn wsX5_namesInIt wsX5_characterAt := goodIn_r _ [6, 7, 8, 9] (by decide +kernel) (by decide +kernel)
set_option maxRecDepth 20000 in
theorem gX5_namesInIt_X5_characterAt : GoodIn wsX5_namesInIt (wsV RX5 19 RX5 yX5_characterAt wsX5_characterAt) := goodIn_app (goodIn_of _ (by decide +kernel)) ggX5_namesInIt_X5_characterAt
theorem dX5_namesInIt_0 : decode cX5_namesInIt 0 = .ok (.iconst 1, 1) := by decide +kernel
theorem dX5_namesInIt_1 : decode cX5_namesInIt 1 = .ok (.istore_n 1, 1) := by decide +kernel
theorem dX5_namesInIt_2 : decode cX5_namesInIt 2 = .ok (.iconst 0, 1) := by decide +kernel
theorem dX5_namesInIt_3 : decode cX5_namesInIt 3 = .ok (.istore_n 2, 1) := by decide +kernel
theorem dX5_namesInIt_4 : decode cX5_namesInIt 4 = .ok (.iload_n 2, 1) := by decide +kernel
theorem dX5_namesInIt_5 : decode cX5_namesInIt 5 = .ok (.aload_n 0, 1) := by decide +kernel
theorem dX5_namesInIt_6 : decode cX5_namesInIt 6 = .ok (.getfield 15, 3) := by decide +kernel
theorem dX5_namesInIt_9 : decode cX5_namesInIt 9 = .ok (.if_icmp .ge 22, 3) := by decide +kernel
theorem dX5_namesInIt_12 : decode cX5_namesInIt 12 = .ok (.aload_n 0, 1) := by decide +kernel
theorem dX5_namesInIt_13 : decode cX5_namesInIt 13 = .ok (.iload_n 2, 1) := by decide +kernel
theorem dX5_namesInIt_14 : decode cX5_namesInIt 14 = .ok (.invokevirtual 19, 3) := by decide +kernel
theorem dX5_namesInIt_17 : decode cX5_namesInIt 17 = .ok (.bipush 59, 2) := by decide +kernel
theorem dX5_namesInIt_19 : decode cX5_namesInIt 19 = .ok (.if_icmp .ne 6, 3) := by decide +kernel
theorem dX5_namesInIt_22 : decode cX5_namesInIt 22 = .ok (.iinc 1 1, 3) := by decide +kernel
theorem dX5_namesInIt_25 : decode cX5_namesInIt 25 = .ok (.iinc 2 1, 3) := by decide +kernel
theorem dX5_namesInIt_28 : decode cX5_namesInIt 28 = .ok (.goto (-24), 3) := by decide +kernel
theorem dX5_namesInIt_31 : decode cX5_namesInIt 31 = .ok (.iload_n 1, 1) := by decide +kernel
theorem dX5_namesInIt_32 : decode cX5_namesInIt 32 = .ok (.ireturn, 1) := by decide +kernel
set_option maxRecDepth 20000 in
theorem ggX5_fault_X5_characterAt : GoodIn wsX5_fault wsX5_characterAt := goodIn_r _ [6, 7, 18, 19] (by decide +kernel) (by decide +kernel)
set_option maxRecDepth 20000 in
theorem gX5_fault_X5_characterAt : GoodIn wsX5_fault (wsV RX5 19 RX5 yX5_characterAt wsX5_characterAt) := goodIn_app (goodIn_of _ (by decide +kernel)) ggX5_fault_X5_characterAt
set_option maxRecDepth 20000 in
theorem ggX5_fault_X5_isAllowed : GoodIn wsX5_fault wsX5_isAllowed := goodIn_r _ [10, 11, 12, 13, 14, 15, 16, 17] (by decide +kernel) (by decide +kernel)
set_option maxRecDepth 20000 in
theorem gX5_fault_X5_isAllowed : GoodIn wsX5_fault (va_wsS RX5 23 yX5_isAllowed wsX5_isAllowed) := goodIn_app (goodIn_of _ (by decide +kernel)) ggX5_fault_X5_isAllowed
set_option maxRecDepth 20000 in
theorem ggX5_fault_X3_isLetter : GoodIn wsX5_fault wsX3_isLetter := goodIn_r _ [14] (by decide +kernel) (by decide +kernel)
set_option maxRecDepth 20000 in
theorem gX5_fault_X3_isLetter : GoodIn wsX5_fault (va_wsS RX5 27 yX3_isLetter wsX3_isLetter) := goodIn_app (goodIn_of _ (by decide +kernel)) ggX5_fault_X3_isLetter
theorem dX5_fault_0 : decode cX5_fault 0 = .ok (.iconst 0, 1) := by decide +kernel
theorem dX5_fault_1 : decode cX5_fault 1 = .ok (.istore_n 1, 1) := by decide +kernel
theorem dX5_fault_2 : decode cX5_fault 2 = .ok (.iconst 0, 1) := by decide +kernel
theorem dX5_fault_3 : decode cX5_fault 3 = .ok (.istore_n 2, 1) := by decide +kernel
theorem dX5_fault_4 : decode cX5_fault 4 = .ok (.iconst 0, 1) := by decide +kernel
theorem dX5_fault_5 : decode cX5_fault 5 = .ok (.istore_n 3, 1) := by decide +kernel
theorem dX5_fault_6 : decode cX5_fault 6 = .ok (.iload_n 3, 1) := by decide +kernel
theorem dX5_fault_7 : decode cX5_fault 7 = .ok (.aload_n 0, 1) := by decide +kernel
theorem dX5_fault_8 : decode cX5_fault 8 = .ok (.getfield 15, 3) := by decide +kernel
theorem dX5_fault_11 : decode cX5_fault 11 = .ok (.if_icmp .ge 49, 3) := by decide +kernel
theorem dX5_fault_14 : decode cX5_fault 14 = .ok (.aload_n 0, 1) := by decide +kernel
theorem dX5_fault_15 : decode cX5_fault 15 = .ok (.iload_n 3, 1) := by decide +kernel
theorem dX5_fault_16 : decode cX5_fault 16 = .ok (.invokevirtual 19, 3) := by decide +kernel
theorem dX5_fault_19 : decode cX5_fault 19 = .ok (.istore 4, 2) := by decide +kernel
theorem dX5_fault_21 : decode cX5_fault 21 = .ok (.iload 4, 2) := by decide +kernel
theorem dX5_fault_23 : decode cX5_fault 23 = .ok (.iload_n 1, 1) := by decide +kernel
theorem dX5_fault_24 : decode cX5_fault 24 = .ok (.iload_n 2, 1) := by decide +kernel
theorem dX5_fault_25 : decode cX5_fault 25 = .ok (.invokestatic 23, 3) := by decide +kernel
theorem dX5_fault_28 : decode cX5_fault 28 = .ok (.ifCond .ne 5, 3) := by decide +kernel
theorem dX5_fault_31 : decode cX5_fault 31 = .ok (.iload_n 3, 1) := by decide +kernel
theorem dX5_fault_32 : decode cX5_fault 32 = .ok (.ireturn, 1) := by decide +kernel
theorem dX5_fault_33 : decode cX5_fault 33 = .ok (.iload 4, 2) := by decide +kernel
theorem dX5_fault_35 : decode cX5_fault 35 = .ok (.bipush 59, 2) := by decide +kernel
theorem dX5_fault_37 : decode cX5_fault 37 = .ok (.if_icmp .ne 7, 3) := by decide +kernel
theorem dX5_fault_40 : decode cX5_fault 40 = .ok (.iconst 0, 1) := by decide +kernel
theorem dX5_fault_41 : decode cX5_fault 41 = .ok (.goto 6, 3) := by decide +kernel
theorem dX5_fault_44 : decode cX5_fault 44 = .ok (.iload_n 1, 1) := by decide +kernel
theorem dX5_fault_45 : decode cX5_fault 45 = .ok (.iconst 1, 1) := by decide +kernel
theorem dX5_fault_46 : decode cX5_fault 46 = .ok (.iadd, 1) := by decide +kernel
theorem dX5_fault_47 : decode cX5_fault 47 = .ok (.istore_n 1, 1) := by decide +kernel
theorem dX5_fault_48 : decode cX5_fault 48 = .ok (.iload 4, 2) := by decide +kernel
theorem dX5_fault_50 : decode cX5_fault 50 = .ok (.invokestatic 27, 3) := by decide +kernel
theorem dX5_fault_53 : decode cX5_fault 53 = .ok (.istore_n 2, 1) := by decide +kernel
theorem dX5_fault_54 : decode cX5_fault 54 = .ok (.iinc 3 1, 3) := by decide +kernel
theorem dX5_fault_57 : decode cX5_fault 57 = .ok (.goto (-51), 3) := by decide +kernel
theorem dX5_fault_60 : decode cX5_fault 60 = .ok (.iload_n 2, 1) := by decide +kernel
theorem dX5_fault_61 : decode cX5_fault 61 = .ok (.ifCond .eq 7, 3) := by decide +kernel
theorem dX5_fault_64 : decode cX5_fault 64 = .ok (.iconst (-1), 1) := by decide +kernel
theorem dX5_fault_65 : decode cX5_fault 65 = .ok (.goto 7, 3) := by decide +kernel
theorem dX5_fault_68 : decode cX5_fault 68 = .ok (.aload_n 0, 1) := by decide +kernel
theorem dX5_fault_69 : decode cX5_fault 69 = .ok (.getfield 15, 3) := by decide +kernel
theorem dX5_fault_72 : decode cX5_fault 72 = .ok (.ireturn, 1) := by decide +kernel
set_option maxRecDepth 20000 in
theorem ggX5_isAllowed_X3_isLetter : GoodIn wsX5_isAllowed wsX3_isLetter := goodIn_r _ [4] (by decide +kernel) (by decide +kernel)
set_option maxRecDepth 20000 in
theorem gX5_isAllowed_X3_isLetter : GoodIn wsX5_isAllowed (va_wsS RX5 27 yX3_isLetter wsX3_isLetter) := goodIn_app (goodIn_of _ (by decide +kernel)) ggX5_isAllowed_X3_isLetter
set_option maxRecDepth 20000 in
theorem ggX5_isAllowed_X3_isMark : GoodIn wsX5_isAllowed wsX3_isMark := goodIn_r _ [7] (by decide +kernel) (by decide +kernel)
set_option maxRecDepth 20000 in
theorem gX5_isAllowed_X3_isMark : GoodIn wsX5_isAllowed (va_wsS RX5 33 yX3_isMark wsX3_isMark) := goodIn_app (goodIn_of _ (by decide +kernel)) ggX5_isAllowed_X3_isMark
theorem dX5_isAllowed_0 : decode cX5_isAllowed 0 = .ok (.iload_n 0, 1) := by decide +kernel
theorem dX5_isAllowed_1 : decode cX5_isAllowed 1 = .ok (.bipush 59, 2) := by decide +kernel
theorem dX5_isAllowed_3 : decode cX5_isAllowed 3 = .ok (.if_icmp .ne 5, 3) := by decide +kernel
theorem dX5_isAllowed_6 : decode cX5_isAllowed 6 = .ok (.iload_n 2, 1) := by decide +kernel
theorem dX5_isAllowed_7 : decode cX5_isAllowed 7 = .ok (.ireturn, 1) := by decide +kernel
theorem dX5_isAllowed_8 : decode cX5_isAllowed 8 = .ok (.iload_n 1, 1) := by decide +kernel
theorem dX5_isAllowed_9 : decode cX5_isAllowed 9 = .ok (.bipush 16, 2) := by decide +kernel
theorem dX5_isAllowed_11 : decode cX5_isAllowed 11 = .ok (.if_icmp .lt 5, 3) := by decide +kernel
theorem dX5_isAllowed_14 : decode cX5_isAllowed 14 = .ok (.iconst 0, 1) := by decide +kernel
theorem dX5_isAllowed_15 : decode cX5_isAllowed 15 = .ok (.ireturn, 1) := by decide +kernel
theorem dX5_isAllowed_16 : decode cX5_isAllowed 16 = .ok (.iload_n 0, 1) := by decide +kernel
theorem dX5_isAllowed_17 : decode cX5_isAllowed 17 = .ok (.invokestatic 27, 3) := by decide +kernel
theorem dX5_isAllowed_20 : decode cX5_isAllowed 20 = .ok (.ifCond .ne 14, 3) := by decide +kernel
theorem dX5_isAllowed_23 : decode cX5_isAllowed 23 = .ok (.iload_n 2, 1) := by decide +kernel
theorem dX5_isAllowed_24 : decode cX5_isAllowed 24 = .ok (.ifCond .eq 14, 3) := by decide +kernel
theorem dX5_isAllowed_27 : decode cX5_isAllowed 27 = .ok (.iload_n 0, 1) := by decide +kernel
theorem dX5_isAllowed_28 : decode cX5_isAllowed 28 = .ok (.invokestatic 33, 3) := by decide +kernel
theorem dX5_isAllowed_31 : decode cX5_isAllowed 31 = .ok (.ifCond .eq 7, 3) := by decide +kernel
theorem dX5_isAllowed_34 : decode cX5_isAllowed 34 = .ok (.iconst 1, 1) := by decide +kernel
theorem dX5_isAllowed_35 : decode cX5_isAllowed 35 = .ok (.goto 4, 3) := by decide +kernel
theorem dX5_isAllowed_38 : decode cX5_isAllowed 38 = .ok (.iconst 0, 1) := by decide +kernel
theorem dX5_isAllowed_39 : decode cX5_isAllowed 39 = .ok (.ireturn, 1) := by decide +kernel
set_option maxRecDepth 20000 in
theorem ggX6_init_X4_init : GoodIn wsX6_init wsX4_init := goodIn_r _ [19, 20, 2, 3, 21, 22, 23, 24, 25, 26, 27, 28, 29, 30, 31, 32, 33, 34, 35, 36, 37, 38, 39, 40, 41, 42, 43, 44, 45, 46, 47, 48, 49, 50, 51, 85, 86, 87, 65, 66, 67, 68, 69, 70, 71, 72, 73, 74, 88, 89, 90, 91] (by decide +kernel) (by decide +kernel)
set_option maxRecDepth 20000 in
theorem gX6_init_X4_init_n9 : GoodIn wsX6_init (wsX4_init) := ggX6_init_X4_init
set_option maxRecDepth 20000 in
theorem ggX6_init_X0_init : GoodIn wsX6_init wsX0_init := goodIn_r _ [54, 55, 2, 3, 56, 57, 58, 59, 5, 6, 18, 19, 20, 21, 22, 23, 24, 25, 26, 27, 28, 29, 30, 31, 32, 33, 34, 35, 36, 37, 38, 39, 40, 41, 42, 43, 44, 45, 46, 47, 48, 49, 50, 51, 80, 81, 82, 65, 66, 67, 68, 69, 70, 71, 72, 73, 74, 85, 86, 87, 88, 89, 90, 91] (by decide +kernel) (by decide +kernel)
set_option maxRecDepth 20000 in
theorem gX6_init_X0_init : GoodIn wsX6_init (wsX0_init) := ggX6_init_X0_init
