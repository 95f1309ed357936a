theorem dX0_slotAt_10 : decode cX0_slotAt 10 = .ok (.ifCond .lt 21, 3) := by decide +kernel
theorem dX0_slotAt_13 : decode cX0_slotAt 13 = .ok (.iload_n 2, 1) := by decide +kernel
theorem dX0_slotAt_14 : decode cX0_slotAt 14 = .ok (.aload_n 0, 1) := by decide +kernel
theorem dX0_slotAt_15 : decode cX0_slotAt 15 = .ok (.getfield 11, 3) := by decide +kernel
theorem dX0_slotAt_18 : decode cX0_slotAt 18 = .ok (.arraylength, 1) := by decide +kernel
theorem dX0_slotAt_19 : decode cX0_slotAt 19 = .ok (.if_icmp .ge 12, 3) := by decide +kernel
theorem dX0_slotAt_22 : decode cX0_slotAt 22 = .ok (.aload_n 0, 1) := by decide +kernel
theorem dX0_slotAt_23 : decode cX0_slotAt 23 = .ok (.getfield 11, 3) := by decide +kernel
theorem dX0_slotAt_26 : decode cX0_slotAt 26 = .ok (.iload_n 2, 1) := by decide +kernel
theorem dX0_slotAt_27 : decode cX0_slotAt 27 = .ok (.aaload, 1) := by decide +kernel
theorem dX0_slotAt_28 : decode cX0_slotAt 28 = .ok (.goto 4, 3) := by decide +kernel
theorem dX0_slotAt_31 : decode cX0_slotAt 31 = .ok (.aconst_null, 1) := by decide +kernel
theorem dX0_slotAt_32 : decode cX0_slotAt 32 = .ok (.areturn, 1) := by decide +kernel
theorem dX1_init_0 : decode cX1_init 0 = .ok (.aload_n 0, 1) := by decide +kernel
theorem dX1_init_1 : decode cX1_init 1 = .ok (.invokespecial 3, 3) := by decide +kernel
theorem dX1_init_4 : decode cX1_init 4 = .ok (.aload_n 0, 1) := by decide +kernel
theorem dX1_init_5 : decode cX1_init 5 = .ok (.sipush 320, 3) := by decide +kernel
theorem dX1_init_8 : decode cX1_init 8 = .ok (.newarray .char, 2) := by decide +kernel
theorem dX1_init_10 : decode cX1_init 10 = .ok (.putfield 9, 3) := by decide +kernel
theorem dX1_init_13 : decode cX1_init 13 = .ok (.aload_n 0, 1) := by decide +kernel
theorem dX1_init_14 : decode cX1_init 14 = .ok (.bipush 20, 2) := by decide +kernel
theorem dX1_init_16 : decode cX1_init 16 = .ok (.newarray .int, 2) := by decide +kernel
theorem dX1_init_18 : decode cX1_init 18 = .ok (.putfield 15, 3) := by decide +kernel
theorem dX1_init_21 : decode cX1_init 21 = .ok (.aload_n 0, 1) := by decide +kernel
theorem dX1_init_22 : decode cX1_init 22 = .ok (.iconst 0, 1) := by decide +kernel
theorem dX1_init_23 : decode cX1_init 23 = .ok (.putfield 19, 3) := by decide +kernel
theorem dX1_init_26 : decode cX1_init 26 = .ok (.return_, 1) := by decide +kernel
theorem dX1_copyFrom_0 : decode cX1_copyFrom 0 = .ok (.aload_n 1, 1) := by decide +kernel
theorem dX1_copyFrom_1 : decode cX1_copyFrom 1 = .ok (.getfield 9, 3) := by decide +kernel
theorem dX1_copyFrom_4 : decode cX1_copyFrom 4 = .ok (.iconst 0, 1) := by decide +kernel
theorem dX1_copyFrom_5 : decode cX1_copyFrom 5 = .ok (.aload_n 0, 1) := by decide +kernel
theorem dX1_copyFrom_6 : decode cX1_copyFrom 6 = .ok (.getfield 9, 3) := by decide +kernel
theorem dX1_copyFrom_9 : decode cX1_copyFrom 9 = .ok (.iconst 0, 1) := by decide +kernel
theorem dX1_copyFrom_10 : decode cX1_copyFrom 10 = .ok (.aload_n 0, 1) := by decide +kernel
theorem dX1_copyFrom_11 : decode cX1_copyFrom 11 = .ok (.getfield 9, 3) := by decide +kernel
theorem dX1_copyFrom_14 : decode cX1_copyFrom 14 = .ok (.arraylength, 1) := by decide +kernel
theorem dX1_copyFrom_15 : decode cX1_copyFrom 15 = .ok (.invokestatic 23, 3) := by decide +kernel
theorem dX1_copyFrom_18 : decode cX1_copyFrom 18 = .ok (.aload_n 1, 1) := by decide +kernel
theorem dX1_copyFrom_19 : decode cX1_copyFrom 19 = .ok (.getfield 15, 3) := by decide +kernel
theorem dX1_copyFrom_22 : decode cX1_copyFrom 22 = .ok (.iconst 0, 1) := by decide +kernel
theorem dX1_copyFrom_23 : decode cX1_copyFrom 23 = .ok (.aload_n 0, 1) := by decide +kernel
theorem dX1_copyFrom_24 : decode cX1_copyFrom 24 = .ok (.getfield 15, 3) := by decide +kernel
theorem dX1_copyFrom_27 : decode cX1_copyFrom 27 = .ok (.iconst 0, 1) := by decide +kernel
theorem dX1_copyFrom_28 : decode cX1_copyFrom 28 = .ok (.aload_n 0, 1) := by decide +kernel
theorem dX1_copyFrom_29 : decode cX1_copyFrom 29 = .ok (.getfield 15, 3) := by decide +kernel
theorem dX1_copyFrom_32 : decode cX1_copyFrom 32 = .ok (.arraylength, 1) := by decide +kernel
theorem dX1_copyFrom_33 : decode cX1_copyFrom 33 = .ok (.invokestatic 23, 3) := by decide +kernel
theorem dX1_copyFrom_36 : decode cX1_copyFrom 36 = .ok (.aload_n 0, 1) := by decide +kernel
theorem dX1_copyFrom_37 : decode cX1_copyFrom 37 = .ok (.aload_n 1, 1) := by decide +kernel
theorem dX1_copyFrom_38 : decode cX1_copyFrom 38 = .ok (.getfield 19, 3) := by decide +kernel
theorem dX1_copyFrom_41 : decode cX1_copyFrom 41 = .ok (.putfield 19, 3) := by decide +kernel
theorem dX1_copyFrom_44 : decode cX1_copyFrom 44 = .ok (.return_, 1) := by decide +kernel
theorem dX1_isTaken_0 : decode cX1_isTaken 0 = .ok (.iload_n 1, 1) := by decide +kernel
theorem dX1_isTaken_1 : decode cX1_isTaken 1 = .ok (.ifCond .lt 21, 3) := by decide +kernel
theorem dX1_isTaken_4 : decode cX1_isTaken 4 = .ok (.iload_n 1, 1) := by decide +kernel
theorem dX1_isTaken_5 : decode cX1_isTaken 5 = .ok (.aload_n 0, 1) := by decide +kernel
theorem dX1_isTaken_6 : decode cX1_isTaken 6 = .ok (.getfield 19, 3) := by decide +kernel
theorem dX1_isTaken_9 : decode cX1_isTaken 9 = .ok (.if_icmp .ge 13, 3) := by decide +kernel
theorem dX1_isTaken_12 : decode cX1_isTaken 12 = .ok (.iload_n 1, 1) := by decide +kernel
theorem dX1_isTaken_13 : decode cX1_isTaken 13 = .ok (.bipush 20, 2) := by decide +kernel
theorem dX1_isTaken_15 : decode cX1_isTaken 15 = .ok (.if_icmp .ge 7, 3) := by decide +kernel
theorem dX1_isTaken_18 : decode cX1_isTaken 18 = .ok (.iconst 1, 1) := by decide +kernel
theorem dX1_isTaken_19 : decode cX1_isTaken 19 = .ok (.goto 4, 3) := by decide +kernel
theorem dX1_isTaken_22 : decode cX1_isTaken 22 = .ok (.iconst 0, 1) := by decide +kernel
theorem dX1_isTaken_23 : decode cX1_isTaken 23 = .ok (.ireturn, 1) := by decide +kernel
set_option maxRecDepth 20000 in
theorem ggX1_isIn_X1_isTaken : GoodIn wsX1_isIn wsX1_isTaken := goodIn_r _ [5, 6, 12, 13, 14] (by decide +kernel) (by decide +kernel)
set_option maxRecDepth 20000 in
theorem gX1_isIn_X1_isTaken : GoodIn wsX1_isIn (wsV RX1 29 RX1 yX1_isTaken wsX1_isTaken) := goodIn_app (goodIn_of _ (by decide +kernel)) ggX1_isIn_X1_isTaken
set_option maxRecDepth 20000 in
theorem ggX1_isIn_X1_lengthOf : GoodIn wsX1_isIn wsX1_lengthOf := goodIn_r _ [10, 11, 12, 13, 14] (by decide +kernel) (by decide +kernel)
set_option maxRecDepth 20000 in
theorem gX1_isIn_X1_lengthOf : GoodIn wsX1_isIn (wsV RX1 33 RX1 yX1_lengthOf wsX1_lengthOf) := goodIn_app (goodIn_of _ (by decide +kernel)) ggX1_isIn_X1_lengthOf
theorem dX1_isIn_0 : decode cX1_isIn 0 = .ok (.aload_n 0, 1) := by decide +kernel
theorem dX1_isIn_1 : decode cX1_isIn 1 = .ok (.iload_n 1, 1) := by decide +kernel
theorem dX1_isIn_2 : decode cX1_isIn 2 = .ok (.invokevirtual 29, 3) := by decide +kernel
theorem dX1_isIn_5 : decode cX1_isIn 5 = .ok (.ifCond .eq 20, 3) := by decide +kernel
theorem dX1_isIn_8 : decode cX1_isIn 8 = .ok (.iload_n 2, 1) := by decide +kernel
theorem dX1_isIn_9 : decode cX1_isIn 9 = .ok (.ifCond .lt 16, 3) := by decide +kernel
theorem dX1_isIn_12 : decode cX1_isIn 12 = .ok (.iload_n 2, 1) := by decide +kernel
theorem dX1_isIn_13 : decode cX1_isIn 13 = .ok (.aload_n 0, 1) := by decide +kernel
theorem dX1_isIn_14 : decode cX1_isIn 14 = .ok (.iload_n 1, 1) := by decide +kernel
theorem dX1_isIn_15 : decode cX1_isIn 15 = .ok (.invokevirtual 33, 3) := by decide +kernel
theorem dX1_isIn_18 : decode cX1_isIn 18 = .ok (.if_icmp .ge 7, 3) := by decide +kernel
theorem dX1_isIn_21 : decode cX1_isIn 21 = .ok (.iconst 1, 1) := by decide +kernel
theorem dX1_isIn_22 : decode cX1_isIn 22 = .ok (.goto 4, 3) := by decide +kernel
theorem dX1_isIn_25 : decode cX1_isIn 25 = .ok (.iconst 0, 1) := by decide +kernel
theorem dX1_isIn_26 : decode cX1_isIn 26 = .ok (.ireturn, 1) := by decide +kernel
set_option maxRecDepth 20000 in
theorem ggX1_isLast_X1_lengthOf : GoodIn wsX1_isLast wsX1_lengthOf := goodIn_r _ [5, 6, 7, 8, 9] (by decide +kernel) (by decide +kernel)
set_option maxRecDepth 20000 in
theorem gX1_isLast_X1_lengthOf : GoodIn wsX1_isLast (wsV RX1 33 RX1 yX1_lengthOf wsX1_lengthOf) := goodIn_app (goodIn_of _ (by decide +kernel)) ggX1_isLast_X1_lengthOf
theorem dX1_isLast_0 : decode cX1_isLast 0 = .ok (.iload_n 2, 1) := by decide +kernel
theorem dX1_isLast_1 : decode cX1_isLast 1 = .ok (.aload_n 0, 1) := by decide +kernel
theorem dX1_isLast_2 : decode cX1_isLast 2 = .ok (.iload_n 1, 1) := by decide +kernel
theorem dX1_isLast_3 : decode cX1_isLast 3 = .ok (.invokevirtual 33, 3) := by decide +kernel
theorem dX1_isLast_6 : decode cX1_isLast 6 = .ok (.iconst 1, 1) := by decide +kernel
theorem dX1_isLast_7 : decode cX1_isLast 7 = .ok (.isub, 1) := by decide +kernel
theorem dX1_isLast_8 : decode cX1_isLast 8 = .ok (.if_icmp .ne 7, 3) := by decide +kernel
theorem dX1_isLast_11 : decode cX1_isLast 11 = .ok (.iconst 1, 1) := by decide +kernel
theorem dX1_isLast_12 : decode cX1_isLast 12 = .ok (.goto 4, 3) := by decide +kernel
theorem dX1_isLast_15 : decode cX1_isLast 15 = .ok (.iconst 0, 1) := by decide +kernel
theorem dX1_isLast_16 : decode cX1_isLast 16 = .ok (.ireturn, 1) := by decide +kernel
theorem dX1_lengthOf_0 : decode cX1_lengthOf 0 = .ok (.iload_n 1, 1) := by decide +kernel
theorem dX1_lengthOf_1 : decode cX1_lengthOf 1 = .ok (.ifCond .lt 21, 3) := by decide +kernel
theorem dX1_lengthOf_4 : decode cX1_lengthOf 4 = .ok (.iload_n 1, 1) := by decide +kernel
theorem dX1_lengthOf_5 : decode cX1_lengthOf 5 = .ok (.aload_n 0, 1) := by decide +kernel
theorem dX1_lengthOf_6 : decode cX1_lengthOf 6 = .ok (.getfield 15, 3) := by decide +kernel
theorem dX1_lengthOf_9 : decode cX1_lengthOf 9 = .ok (.arraylength, 1) := by decide +kernel
theorem dX1_lengthOf_10 : decode cX1_lengthOf 10 = .ok (.if_icmp .ge 12, 3) := by decide +kernel
theorem dX1_lengthOf_13 : decode cX1_lengthOf 13 = .ok (.aload_n 0, 1) := by decide +kernel
theorem dX1_lengthOf_14 : decode cX1_lengthOf 14 = .ok (.getfield 15, 3) := by decide +kernel
theorem dX1_lengthOf_17 : decode cX1_lengthOf 17 = .ok (.iload_n 1, 1) := by decide +kernel
theorem dX1_lengthOf_18 : decode cX1_lengthOf 18 = .ok (.iaload, 1) := by decide +kernel
theorem dX1_lengthOf_19 : decode cX1_lengthOf 19 = .ok (.goto 4, 3) := by decide +kernel
theorem dX1_lengthOf_22 : decode cX1_lengthOf 22 = .ok (.iconst 0, 1) := by decide +kernel
theorem dX1_lengthOf_23 : decode cX1_lengthOf 23 = .ok (.ireturn, 1) := by decide +kernel
theorem dX1_codeAt_0 : decode cX1_codeAt 0 = .ok (.iload_n 1, 1) := by decide +kernel
theorem dX1_codeAt_1 : decode cX1_codeAt 1 = .ok (.bipush 16, 2) := by decide +kernel
theorem dX1_codeAt_3 : decode cX1_codeAt 3 = .ok (.imul, 1) := by decide +kernel
theorem dX1_codeAt_4 : decode cX1_codeAt 4 = .ok (.iload_n 2, 1) := by decide +kernel
theorem dX1_codeAt_5 : decode cX1_codeAt 5 = .ok (.iadd, 1) := by decide +kernel
theorem dX1_codeAt_6 : decode cX1_codeAt 6 = .ok (.istore_n 3, 1) := by decide +kernel
theorem dX1_codeAt_7 : decode cX1_codeAt 7 = .ok (.iload_n 3, 1) := by decide +kernel
theorem dX1_codeAt_8 : decode cX1_codeAt 8 = .ok (.ifCond .lt 21, 3) := by decide +kernel
theorem dX1_codeAt_11 : decode cX1_codeAt 11 = .ok (.iload_n 3, 1) := by decide +kernel
theorem dX1_codeAt_12 : decode cX1_codeAt 12 = .ok (.aload_n 0, 1) := by decide +kernel
theorem dX1_codeAt_13 : decode cX1_codeAt 13 = .ok (.getfield 9, 3) := by decide +kernel
theorem dX1_codeAt_16 : decode cX1_codeAt 16 = .ok (.arraylength, 1) := by decide +kernel
theorem dX1_codeAt_17 : decode cX1_codeAt 17 = .ok (.if_icmp .ge 12, 3) := by decide +kernel
theorem dX1_codeAt_20 : decode cX1_codeAt 20 = .ok (.aload_n 0, 1) := by decide +kernel
theorem dX1_codeAt_21 : decode cX1_codeAt 21 = .ok (.getfield 9, 3) := by decide +kernel
theorem dX1_codeAt_24 : decode cX1_codeAt 24 = .ok (.iload_n 3, 1) := by decide +kernel
theorem dX1_codeAt_25 : decode cX1_codeAt 25 = .ok (.caload, 1) := by decide +kernel
theorem dX1_codeAt_26 : decode cX1_codeAt 26 = .ok (.goto 5, 3) := by decide +kernel
theorem dX1_codeAt_29 : decode cX1_codeAt 29 = .ok (.bipush 59, 2) := by decide +kernel
theorem dX1_codeAt_31 : decode cX1_codeAt 31 = .ok (.ireturn, 1) := by decide +kernel
theorem dX1_begin_0 : decode cX1_begin 0 = .ok (.aload_n 0, 1) := by decide +kernel
theorem dX1_begin_1 : decode cX1_begin 1 = .ok (.getfield 19, 3) := by decide +kernel
theorem dX1_begin_4 : decode cX1_begin 4 = .ok (.ifCond .lt 32, 3) := by decide +kernel
theorem dX1_begin_7 : decode cX1_begin 7 = .ok (.aload_n 0, 1) := by decide +kernel
theorem dX1_begin_8 : decode cX1_begin 8 = .ok (.getfield 19, 3) := by decide +kernel
theorem dX1_begin_11 : decode cX1_begin 11 = .ok (.bipush 20, 2) := by decide +kernel
theorem dX1_begin_13 : decode cX1_begin 13 = .ok (.if_icmp .ge 23, 3) := by decide +kernel
theorem dX1_begin_16 : decode cX1_begin 16 = .ok (.aload_n 0, 1) := by decide +kernel
theorem dX1_begin_17 : decode cX1_begin 17 = .ok (.getfield 15, 3) := by decide +kernel
theorem dX1_begin_20 : decode cX1_begin 20 = .ok (.aload_n 0, 1) := by decide +kernel
theorem dX1_begin_21 : decode cX1_begin 21 = .ok (.getfield 19, 3) := by decide +kernel
theorem dX1_begin_24 : decode cX1_begin 24 = .ok (.iconst 0, 1) := by decide +kernel
theorem dX1_begin_25 : decode cX1_begin 25 = .ok (.iastore, 1) := by decide +kernel
theorem dX1_begin_26 : decode cX1_begin 26 = .ok (.aload_n 0, 1) := by decide +kernel
theorem dX1_begin_27 : decode cX1_begin 27 = .ok (.dup, 1) := by decide +kernel
theorem dX1_begin_28 : decode cX1_begin 28 = .ok (.getfield 19, 3) := by decide +kernel
theorem dX1_begin_31 : decode cX1_begin 31 = .ok (.iconst 1, 1) := by decide +kernel
theorem dX1_begin_32 : decode cX1_begin 32 = .ok (.iadd, 1) := by decide +kernel
theorem dX1_begin_33 : decode cX1_begin 33 = .ok (.putfield 19, 3) := by decide +kernel
theorem dX1_begin_36 : decode cX1_begin 36 = .ok (.return_, 1) := by decide +kernel
set_option maxRecDepth 20000 in
theorem ggX1_append_X1_isTaken : GoodIn wsX1_append wsX1_isTaken := goodIn_r _ [8, 1, 9, 10, 11] (by decide +kernel) (by decide +kernel)
set_option maxRecDepth 20000 in
theorem gX1_append_X1_isTaken : GoodIn wsX1_append (wsV RX1 29 RX1 yX1_isTaken wsX1_isTaken) := goodIn_app (goodIn_of _ (by decide +kernel)) ggX1_append_X1_isTaken
theorem dX1_append_0 : decode cX1_append 0 = .ok (.aload_n 0, 1) := by decide +kernel
theorem dX1_append_1 : decode cX1_append 1 = .ok (.getfield 19, 3) := by decide +kernel
theorem dX1_append_4 : decode cX1_append 4 = .ok (.iconst 1, 1) := by decide +kernel
theorem dX1_append_5 : decode cX1_append 5 = .ok (.isub, 1) := by decide +kernel
theorem dX1_append_6 : decode cX1_append 6 = .ok (.istore_n 2, 1) := by decide +kernel
theorem dX1_append_7 : decode cX1_append 7 = .ok (.aload_n 0, 1) := by decide +kernel
theorem dX1_append_8 : decode cX1_append 8 = .ok (.iload_n 2, 1) := by decide +kernel
theorem dX1_append_9 : decode cX1_append 9 = .ok (.invokevirtual 29, 3) := by decide +kernel
theorem dX1_append_12 : decode cX1_append 12 = .ok (.ifCond .eq 50, 3) := by decide +kernel
theorem dX1_append_15 : decode cX1_append 15 = .ok (.aload_n 0, 1) := by decide +kernel
theorem dX1_append_16 : decode cX1_append 16 = .ok (.getfield 15, 3) := by decide +kernel
theorem dX1_append_19 : decode cX1_append 19 = .ok (.iload_n 2, 1) := by decide +kernel
theorem dX1_append_20 : decode cX1_append 20 = .ok (.iaload, 1) := by decide +kernel
theorem dX1_append_21 : decode cX1_append 21 = .ok (.ifCond .lt 41, 3) := by decide +kernel
theorem dX1_append_24 : decode cX1_append 24 = .ok (.aload_n 0, 1) := by decide +kernel
theorem dX1_append_25 : decode cX1_append 25 = .ok (.getfield 15, 3) := by decide +kernel
theorem dX1_append_28 : decode cX1_append 28 = .ok (.iload_n 2, 1) := by decide +kernel
theorem dX1_append_29 : decode cX1_append 29 = .ok (.iaload, 1) := by decide +kernel
theorem dX1_append_30 : decode cX1_append 30 = .ok (.bipush 16, 2) := by decide +kernel
theorem dX1_append_32 : decode cX1_append 32 = .ok (.if_icmp .ge 30, 3) := by decide +kernel
theorem dX1_append_35 : decode cX1_append 35 = .ok (.aload_n 0, 1) := by decide +kernel
theorem dX1_append_36 : decode cX1_append 36 = .ok (.getfield 9, 3) := by decide +kernel
theorem dX1_append_39 : decode cX1_append 39 = .ok (.iload_n 2, 1) := by decide +kernel
theorem dX1_append_40 : decode cX1_append 40 = .ok (.bipush 16, 2) := by decide +kernel
theorem dX1_append_42 : decode cX1_append 42 = .ok (.imul, 1) := by decide +kernel
theorem dX1_append_43 : decode cX1_append 43 = .ok (.aload_n 0, 1) := by decide +kernel
theorem dX1_append_44 : decode cX1_append 44 = .ok (.getfield 15, 3) := by decide +kernel
theorem dX1_append_47 : decode cX1_append 47 = .ok (.iload_n 2, 1) := by decide +kernel
theorem dX1_append_48 : decode cX1_append 48 = .ok (.iaload, 1) := by decide +kernel
theorem dX1_append_49 : decode cX1_append 49 = .ok (.iadd, 1) := by decide +kernel
theorem dX1_append_50 : decode cX1_append 50 = .ok (.iload_n 1, 1) := by decide +kernel
theorem dX1_append_51 : decode cX1_append 51 = .ok (.castore, 1) := by decide +kernel
theorem dX1_append_52 : decode cX1_append 52 = .ok (.aload_n 0, 1) := by decide +kernel
theorem dX1_append_53 : decode cX1_append 53 = .ok (.getfield 15, 3) := by decide +kernel
theorem dX1_append_56 : decode cX1_append 56 = .ok (.iload_n 2, 1) := by decide +kernel
theorem dX1_append_57 : decode cX1_append 57 = .ok (.dup2, 1) := by decide +kernel
theorem dX1_append_58 : decode cX1_append 58 = .ok (.iaload, 1) := by decide +kernel
theorem dX1_append_59 : decode cX1_append 59 = .ok (.iconst 1, 1) := by decide +kernel
theorem dX1_append_60 : decode cX1_append 60 = .ok (.iadd, 1) := by decide +kernel
theorem dX1_append_61 : decode cX1_append 61 = .ok (.iastore, 1) := by decide +kernel
theorem dX1_append_62 : decode cX1_append 62 = .ok (.return_, 1) := by decide +kernel
set_option maxRecDepth 20000 in
theorem ggX1_takeOut_X1_isTaken : GoodIn wsX1_takeOut wsX1_isTaken := goodIn_r _ [6, 1, 13, 14, 15] (by decide +kernel) (by decide +kernel)
set_option maxRecDepth 20000 in
theorem gX1_takeOut_X1_isTaken : GoodIn wsX1_takeOut (wsV RX1 29 RX1 yX1_isTaken wsX1_isTaken) := goodIn_app (goodIn_of _ (by decide +kernel)) ggX1_takeOut_X1_isTaken
set_option maxRecDepth 20000 in
theorem ggX1_takeOut_X1_exchange : GoodIn wsX1_takeOut wsX1_exchange := goodIn_r _ [10, 11, 12, 2, 3, 4, 5, 6, 1, 13, 14, 15] (by decide +kernel) (by decide +kernel)
set_option maxRecDepth 20000 in
theorem gX1_takeOut_X1_exchange : GoodIn wsX1_takeOut (wsV RX1 37 RX1 yX1_exchange wsX1_exchange) := goodIn_app (goodIn_of _ (by decide +kernel)) ggX1_takeOut_X1_exchange
theorem dX1_takeOut_0 : decode cX1_takeOut 0 = .ok (.aload_n 0, 1) := by decide +kernel
theorem dX1_takeOut_1 : decode cX1_takeOut 1 = .ok (.iload_n 1, 1) := by decide +kernel
theorem dX1_takeOut_2 : decode cX1_takeOut 2 = .ok (.invokevirtual 29, 3) := by decide +kernel
theorem dX1_takeOut_5 : decode cX1_takeOut 5 = .ok (.ifCond .ne 4, 3) := by decide +kernel
theorem dX1_takeOut_8 : decode cX1_takeOut 8 = .ok (.return_, 1) := by decide +kernel
theorem dX1_takeOut_9 : decode cX1_takeOut 9 = .ok (.iload_n 1, 1) := by decide +kernel
theorem dX1_takeOut_10 : decode cX1_takeOut 10 = .ok (.iconst 1, 1) := by decide +kernel
theorem dX1_takeOut_11 : decode cX1_takeOut 11 = .ok (.iadd, 1) := by decide +kernel
theorem dX1_takeOut_12 : decode cX1_takeOut 12 = .ok (.istore_n 2, 1) := by decide +kernel
theorem dX1_takeOut_13 : decode cX1_takeOut 13 = .ok (.iload_n 2, 1) := by decide +kernel
theorem dX1_takeOut_14 : decode cX1_takeOut 14 = .ok (.aload_n 0, 1) := by decide +kernel
theorem dX1_takeOut_15 : decode cX1_takeOut 15 = .ok (.getfield 19, 3) := by decide +kernel
theorem dX1_takeOut_18 : decode cX1_takeOut 18 = .ok (.if_icmp .ge 23, 3) := by decide +kernel
theorem dX1_takeOut_21 : decode cX1_takeOut 21 = .ok (.iload_n 2, 1) := by decide +kernel
theorem dX1_takeOut_22 : decode cX1_takeOut 22 = .ok (.bipush 20, 2) := by decide +kernel
theorem dX1_takeOut_24 : decode cX1_takeOut 24 = .ok (.if_icmp .ge 17, 3) := by decide +kernel
theorem dX1_takeOut_27 : decode cX1_takeOut 27 = .ok (.aload_n 0, 1) := by decide +kernel
theorem dX1_takeOut_28 : decode cX1_takeOut 28 = .ok (.iload_n 2, 1) := by decide +kernel
theorem dX1_takeOut_29 : decode cX1_takeOut 29 = .ok (.iconst 1, 1) := by decide +kernel
theorem dX1_takeOut_30 : decode cX1_takeOut 30 = .ok (.isub, 1) := by decide +kernel
theorem dX1_takeOut_31 : decode cX1_takeOut 31 = .ok (.iload_n 2, 1) := by decide +kernel
theorem dX1_takeOut_32 : decode cX1_takeOut 32 = .ok (.invokevirtual 37, 3) := by decide +kernel
theorem dX1_takeOut_35 : decode cX1_takeOut 35 = .ok (.iinc 2 1, 3) := by decide +kernel
theorem dX1_takeOut_38 : decode cX1_takeOut 38 = .ok (.goto (-25), 3) := by decide +kernel
theorem dX1_takeOut_41 : decode cX1_takeOut 41 = .ok (.aload_n 0, 1) := by decide +kernel
theorem dX1_takeOut_42 : decode cX1_takeOut 42 = .ok (.dup, 1) := by decide +kernel
theorem dX1_takeOut_43 : decode cX1_takeOut 43 = .ok (.getfield 19, 3) := by decide +kernel
theorem dX1_takeOut_46 : decode cX1_takeOut 46 = .ok (.iconst 1, 1) := by decide +kernel
theorem dX1_takeOut_47 : decode cX1_takeOut 47 = .ok (.isub, 1) := by decide +kernel
theorem dX1_takeOut_48 : decode cX1_takeOut 48 = .ok (.putfield 19, 3) := by decide +kernel
theorem dX1_takeOut_51 : decode cX1_takeOut 51 = .ok (.return_, 1) := by decide +kernel
set_option maxRecDepth 20000 in
theorem ggX1_exchange_X1_isTaken : GoodIn wsX1_exchange wsX1_isTaken := goodIn_r _ [7, 8, 9, 10, 11] (by decide +kernel) (by decide +kernel)
set_option maxRecDepth 20000 in
theorem gX1_exchange_X1_isTaken : GoodIn wsX1_exchange (wsV RX1 29 RX1 yX1_isTaken wsX1_isTaken) := goodIn_app (goodIn_of _ (by decide +kernel)) ggX1_exchange_X1_isTaken
theorem dX1_exchange_0 : decode cX1_exchange 0 = .ok (.aload_n 0, 1) := by decide +kernel
theorem dX1_exchange_1 : decode cX1_exchange 1 = .ok (.iload_n 1, 1) := by decide +kernel
theorem dX1_exchange_2 : decode cX1_exchange 2 = .ok (.invokevirtual 29, 3) := by decide +kernel
theorem dX1_exchange_5 : decode cX1_exchange 5 = .ok (.ifCond .eq 11, 3) := by decide +kernel
theorem dX1_exchange_8 : decode cX1_exchange 8 = .ok (.aload_n 0, 1) := by decide +kernel
theorem dX1_exchange_9 : decode cX1_exchange 9 = .ok (.iload_n 2, 1) := by decide +kernel
theorem dX1_exchange_10 : decode cX1_exchange 10 = .ok (.invokevirtual 29, 3) := by decide +kernel
theorem dX1_exchange_13 : decode cX1_exchange 13 = .ok (.ifCond .ne 4, 3) := by decide +kernel
theorem dX1_exchange_16 : decode cX1_exchange 16 = .ok (.return_, 1) := by decide +kernel
theorem dX1_exchange_17 : decode cX1_exchange 17 = .ok (.iconst 0, 1) := by decide +kernel
theorem dX1_exchange_18 : decode cX1_exchange 18 = .ok (.istore_n 3, 1) := by decide +kernel
theorem dX1_exchange_19 : decode cX1_exchange 19 = .ok (.iload_n 3, 1) := by decide +kernel
theorem dX1_exchange_20 : decode cX1_exchange 20 = .ok (.bipush 16, 2) := by decide +kernel
theorem dX1_exchange_22 : decode cX1_exchange 22 = .ok (.if_icmp .ge 57, 3) := by decide +kernel
theorem dX1_exchange_25 : decode cX1_exchange 25 = .ok (.aload_n 0, 1) := by decide +kernel
theorem dX1_exchange_26 : decode cX1_exchange 26 = .ok (.getfield 9, 3) := by decide +kernel
theorem dX1_exchange_29 : decode cX1_exchange 29 = .ok (.iload_n 1, 1) := by decide +kernel
theorem dX1_exchange_30 : decode cX1_exchange 30 = .ok (.bipush 16, 2) := by decide +kernel
theorem dX1_exchange_32 : decode cX1_exchange 32 = .ok (.imul, 1) := by decide +kernel
theorem dX1_exchange_33 : decode cX1_exchange 33 = .ok (.iload_n 3, 1) := by decide +kernel
theorem dX1_exchange_34 : decode cX1_exchange 34 = .ok (.iadd, 1) := by decide +kernel
theorem dX1_exchange_35 : decode cX1_exchange 35 = .ok (.caload, 1) := by decide +kernel
theorem dX1_exchange_36 : decode cX1_exchange 36 = .ok (.istore 4, 2) := by decide +kernel
theorem dX1_exchange_38 : decode cX1_exchange 38 = .ok (.aload_n 0, 1) := by decide +kernel
theorem dX1_exchange_39 : decode cX1_exchange 39 = .ok (.getfield 9, 3) := by decide +kernel
theorem dX1_exchange_42 : decode cX1_exchange 42 = .ok (.iload_n 1, 1) := by decide +kernel
theorem dX1_exchange_43 : decode cX1_exchange 43 = .ok (.bipush 16, 2) := by decide +kernel
theorem dX1_exchange_45 : decode cX1_exchange 45 = .ok (.imul, 1) := by decide +kernel
theorem dX1_exchange_46 : decode cX1_exchange 46 = .ok (.iload_n 3, 1) := by decide +kernel
theorem dX1_exchange_47 : decode cX1_exchange 47 = .ok (.iadd, 1) := by decide +kernel
theorem dX1_exchange_48 : decode cX1_exchange 48 = .ok (.aload_n 0, 1) := by decide +kernel
theorem dX1_exchange_49 : decode cX1_exchange 49 = .ok (.getfield 9, 3) := by decide +kernel
theorem dX1_exchange_52 : decode cX1_exchange 52 = .ok (.iload_n 2, 1) := by decide +kernel
theorem dX1_exchange_53 : decode cX1_exchange 53 = .ok (.bipush 16, 2) := by decide +kernel
theorem dX1_exchange_55 : decode cX1_exchange 55 = .ok (.imul, 1) := by decide +kernel
theorem dX1_exchange_56 : decode cX1_exchange 56 = .ok (.iload_n 3, 1) := by decide +kernel
theorem dX1_exchange_57 : decode cX1_exchange 57 = .ok (.iadd, 1) := by decide +kernel
theorem dX1_exchange_58 : decode cX1_exchange 58 = .ok (.caload, 1) := by decide +kernel
theorem dX1_exchange_59 : decode cX1_exchange 59 = .ok (.castore, 1) := by decide +kernel
theorem dX1_exchange_60 : decode cX1_exchange 60 = .ok (.aload_n 0, 1) := by decide +kernel
theorem dX1_exchange_61 : decode cX1_exchange 61 = .ok (.getfield 9, 3) := by decide +kernel
theorem dX1_exchange_64 : decode cX1_exchange 64 = .ok (.iload_n 2, 1) := by decide +kernel
theorem dX1_exchange_65 : decode cX1_exchange 65 = .ok (.bipush 16, 2) := by decide +kernel
theorem dX1_exchange_67 : decode cX1_exchange 67 = .ok (.imul, 1) := by decide +kernel
theorem dX1_exchange_68 : decode cX1_exchange 68 = .ok (.iload_n 3, 1) := by decide +kernel
theorem dX1_exchange_69 : decode cX1_exchange 69 = .ok (.iadd, 1) := by decide +kernel
theorem dX1_exchange_70 : decode cX1_exchange 70 = .ok (.iload 4, 2) := by decide +kernel
theorem dX1_exchange_72 : decode cX1_exchange 72 = .ok (.castore, 1) := by decide +kernel
theorem dX1_exchange_73 : decode cX1_exchange 73 = .ok (.iinc 3 1, 3) := by decide +kernel
theorem dX1_exchange_76 : decode cX1_exchange 76 = .ok (.goto (-57), 3) := by decide +kernel
theorem dX1_exchange_79 : decode cX1_exchange 79 = .ok (.aload_n 0, 1) := by decide +kernel
theorem dX1_exchange_80 : decode cX1_exchange 80 = .ok (.getfield 15, 3) := by decide +kernel
theorem dX1_exchange_83 : decode cX1_exchange 83 = .ok (.iload_n 1, 1) := by decide +kernel
theorem dX1_exchange_84 : decode cX1_exchange 84 = .ok (.iaload, 1) := by decide +kernel
theorem dX1_exchange_85 : decode cX1_exchange 85 = .ok (.istore_n 3, 1) := by decide +kernel
theorem dX1_exchange_86 : decode cX1_exchange 86 = .ok (.aload_n 0, 1) := by decide +kernel
theorem dX1_exchange_87 : decode cX1_exchange 87 = .ok (.getfield 15, 3) := by decide +kernel
theorem dX1_exchange_90 : decode cX1_exchange 90 = .ok (.iload_n 1, 1) := by decide +kernel
theorem dX1_exchange_91 : decode cX1_exchange 91 = .ok (.aload_n 0, 1) := by decide +kernel
theorem dX1_exchange_92 : decode cX1_exchange 92 = .ok (.getfield 15, 3) := by decide +kernel
theorem dX1_exchange_95 : decode cX1_exchange 95 = .ok (.iload_n 2, 1) := by decide +kernel
theorem dX1_exchange_96 : decode cX1_exchange 96 = .ok (.iaload, 1) := by decide +kernel
theorem dX1_exchange_97 : decode cX1_exchange 97 = .ok (.iastore, 1) := by decide +kernel
theorem dX1_exchange_98 : decode cX1_exchange 98 = .ok (.aload_n 0, 1) := by decide +kernel
theorem dX1_exchange_99 : decode cX1_exchange 99 = .ok (.getfield 15, 3) := by decide +kernel
theorem dX1_exchange_102 : decode cX1_exchange 102 = .ok (.iload_n 2, 1) := by decide +kernel
theorem dX1_exchange_103 : decode cX1_exchange 103 = .ok (.iload_n 3, 1) := by decide +kernel
theorem dX1_exchange_104 : decode cX1_exchange 104 = .ok (.iastore, 1) := by decide +kernel
theorem dX1_exchange_105 : decode cX1_exchange 105 = .ok (.return_, 1) := by decide +kernel
theorem dX2_init_0 : decode cX2_init 0 = .ok (.aload_n 0, 1) := by decide +kernel
theorem dX2_init_1 : decode cX2_init 1 = .ok (.invokespecial 3, 3) := by decide +kernel
theorem dX2_init_4 : decode cX2_init 4 = .ok (.aload_n 0, 1) := by decide +kernel
theorem dX2_init_5 : decode cX2_init 5 = .ok (.bipush 16, 2) := by decide +kernel
theorem dX2_init_7 : decode cX2_init 7 = .ok (.newarray .char, 2) := by decide +kernel
theorem dX2_init_9 : decode cX2_init 9 = .ok (.putfield 9, 3) := by decide +kernel
theorem dX2_init_12 : decode cX2_init 12 = .ok (.aload_n 0, 1) := by decide +kernel
theorem dX2_init_13 : decode cX2_init 13 = .ok (.bipush 16, 2) := by decide +kernel
theorem dX2_init_15 : decode cX2_init 15 = .ok (.newarray .char, 2) := by decide +kernel
theorem dX2_init_17 : decode cX2_init 17 = .ok (.putfield 15, 3) := by decide +kernel
theorem dX2_init_20 : decode cX2_init 20 = .ok (.aload_n 0, 1) := by decide +kernel
theorem dX2_init_21 : decode cX2_init 21 = .ok (.bipush 16, 2) := by decide +kernel
theorem dX2_init_23 : decode cX2_init 23 = .ok (.newarray .int, 2) := by decide +kernel
theorem dX2_init_25 : decode cX2_init 25 = .ok (.putfield 18, 3) := by decide +kernel
theorem dX2_init_28 : decode cX2_init 28 = .ok (.aload_n 0, 1) := by decide +kernel
theorem dX2_init_29 : decode cX2_init 29 = .ok (.iconst 0, 1) := by decide +kernel
theorem dX2_init_30 : decode cX2_init 30 = .ok (.putfield 22, 3) := by decide +kernel
theorem dX2_init_33 : decode cX2_init 33 = .ok (.return_, 1) := by decide +kernel
theorem dX2_copyFrom_0 : decode cX2_copyFrom 0 = .ok (.aload_n 1, 1) := by decide +kernel
theorem dX2_copyFrom_1 : decode cX2_copyFrom 1 = .ok (.getfield 9, 3) := by decide +kernel
theorem dX2_copyFrom_4 : decode cX2_copyFrom 4 = .ok (.iconst 0, 1) := by decide +kernel
theorem dX2_copyFrom_5 : decode cX2_copyFrom 5 = .ok (.aload_n 0, 1) := by decide +kernel
theorem dX2_copyFrom_6 : decode cX2_copyFrom 6 = .ok (.getfield 9, 3) := by decide +kernel
theorem dX2_copyFrom_9 : decode cX2_copyFrom 9 = .ok (.iconst 0, 1) := by decide +kernel
theorem dX2_copyFrom_10 : decode cX2_copyFrom 10 = .ok (.aload_n 0, 1) := by decide +kernel
theorem dX2_copyFrom_11 : decode cX2_copyFrom 11 = .ok (.getfield 9, 3) := by decide +kernel
theorem dX2_copyFrom_14 : decode cX2_copyFrom 14 = .ok (.arraylength, 1) := by decide +kernel
theorem dX2_copyFrom_15 : decode cX2_copyFrom 15 = .ok (.invokestatic 26, 3) := by decide +kernel
theorem dX2_copyFrom_18 : decode cX2_copyFrom 18 = .ok (.aload_n 1, 1) := by decide +kernel
theorem dX2_copyFrom_19 : decode cX2_copyFrom 19 = .ok (.getfield 15, 3) := by decide +kernel
theorem dX2_copyFrom_22 : decode cX2_copyFrom 22 = .ok (.iconst 0, 1) := by decide +kernel
theorem dX2_copyFrom_23 : decode cX2_copyFrom 23 = .ok (.aload_n 0, 1) := by decide +kernel
theorem dX2_copyFrom_24 : decode cX2_copyFrom 24 = .ok (.getfield 15, 3) := by decide +kernel
theorem dX2_copyFrom_27 : decode cX2_copyFrom 27 = .ok (.iconst 0, 1) := by decide +kernel
theorem dX2_copyFrom_28 : decode cX2_copyFrom 28 = .ok (.aload_n 0, 1) := by decide +kernel
theorem dX2_copyFrom_29 : decode cX2_copyFrom 29 = .ok (.getfield 15, 3) := by decide +kernel
theorem dX2_copyFrom_32 : decode cX2_copyFrom 32 = .ok (.arraylength, 1) := by decide +kernel
theorem dX2_copyFrom_33 : decode cX2_copyFrom 33 = .ok (.invokestatic 26, 3) := by decide +kernel
theorem dX2_copyFrom_36 : decode cX2_copyFrom 36 = .ok (.aload_n 1, 1) := by decide +kernel
theorem dX2_copyFrom_37 : decode cX2_copyFrom 37 = .ok (.getfield 18, 3) := by decide +kernel
theorem dX2_copyFrom_40 : decode cX2_copyFrom 40 = .ok (.iconst 0, 1) := by decide +kernel
theorem dX2_copyFrom_41 : decode cX2_copyFrom 41 = .ok (.aload_n 0, 1) := by decide +kernel
theorem dX2_copyFrom_42 : decode cX2_copyFrom 42 = .ok (.getfield 18, 3) := by decide +kernel
theorem dX2_copyFrom_45 : decode cX2_copyFrom 45 = .ok (.iconst 0, 1) := by decide +kernel
theorem dX2_copyFrom_46 : decode cX2_copyFrom 46 = .ok (.aload_n 0, 1) := by decide +kernel
theorem dX2_copyFrom_47 : decode cX2_copyFrom 47 = .ok (.getfield 18, 3) := by decide +kernel
theorem dX2_copyFrom_50 : decode cX2_copyFrom 50 = .ok (.arraylength, 1) := by decide +kernel
theorem dX2_copyFrom_51 : decode cX2_copyFrom 51 = .ok (.invokestatic 26, 3) := by decide +kernel
theorem dX2_copyFrom_54 : decode cX2_copyFrom 54 = .ok (.aload_n 0, 1) := by decide +kernel
theorem dX2_copyFrom_55 : decode cX2_copyFrom 55 = .ok (.aload_n 1, 1) := by decide +kernel
theorem dX2_copyFrom_56 : decode cX2_copyFrom 56 = .ok (.getfield 22, 3) := by decide +kernel
theorem dX2_copyFrom_59 : decode cX2_copyFrom 59 = .ok (.putfield 22, 3) := by decide +kernel
theorem dX2_copyFrom_62 : decode cX2_copyFrom 62 = .ok (.return_, 1) := by decide +kernel
theorem dX2_isFull_0 : decode cX2_isFull 0 = .ok (.aload_n 0, 1) := by decide +kernel
theorem dX2_isFull_1 : decode cX2_isFull 1 = .ok (.getfield 22, 3) := by decide +kernel
theorem dX2_isFull_4 : decode cX2_isFull 4 = .ok (.bipush 16, 2) := by decide +kernel
theorem dX2_isFull_6 : decode cX2_isFull 6 = .ok (.if_icmp .lt 7, 3) := by decide +kernel
theorem dX2_isFull_9 : decode cX2_isFull 9 = .ok (.iconst 1, 1) := by decide +kernel
theorem dX2_isFull_10 : decode cX2_isFull 10 = .ok (.goto 4, 3) := by decide +kernel
theorem dX2_isFull_13 : decode cX2_isFull 13 = .ok (.iconst 0, 1) := by decide +kernel
theorem dX2_isFull_14 : decode cX2_isFull 14 = .ok (.ireturn, 1) := by decide +kernel
theorem dX2_isPlace_0 : decode cX2_isPlace 0 = .ok (.iload_n 1, 1) := by decide +kernel
theorem dX2_isPlace_1 : decode cX2_isPlace 1 = .ok (.ifCond .lt 21, 3) := by decide +kernel
theorem dX2_isPlace_4 : decode cX2_isPlace 4 = .ok (.iload_n 1, 1) := by decide +kernel
theorem dX2_isPlace_5 : decode cX2_isPlace 5 = .ok (.aload_n 0, 1) := by decide +kernel
theorem dX2_isPlace_6 : decode cX2_isPlace 6 = .ok (.getfield 22, 3) := by decide +kernel
theorem dX2_isPlace_9 : decode cX2_isPlace 9 = .ok (.if_icmp .ge 13, 3) := by decide +kernel
theorem dX2_isPlace_12 : decode cX2_isPlace 12 = .ok (.iload_n 1, 1) := by decide +kernel
theorem dX2_isPlace_13 : decode cX2_isPlace 13 = .ok (.bipush 16, 2) := by decide +kernel
theorem dX2_isPlace_15 : decode cX2_isPlace 15 = .ok (.if_icmp .ge 7, 3) := by decide +kernel
theorem dX2_isPlace_18 : decode cX2_isPlace 18 = .ok (.iconst 1, 1) := by decide +kernel
theorem dX2_isPlace_19 : decode cX2_isPlace 19 = .ok (.goto 4, 3) := by decide +kernel
theorem dX2_isPlace_22 : decode cX2_isPlace 22 = .ok (.iconst 0, 1) := by decide +kernel
theorem dX2_isPlace_23 : decode cX2_isPlace 23 = .ok (.ireturn, 1) := by decide +kernel
set_option maxRecDepth 20000 in
theorem ggX2_leftAt_X2_isPlace : GoodIn wsX2_leftAt wsX2_isPlace := goodIn_r _ [6, 7, 8, 9, 10, 11] (by decide +kernel) (by decide +kernel)
set_option maxRecDepth 20000 in
theorem gX2_leftAt_X2_isPlace : GoodIn wsX2_leftAt (wsV RX2 32 RX2 yX2_isPlace wsX2_isPlace) := goodIn_app (goodIn_of _ (by decide +kernel)) ggX2_leftAt_X2_isPlace
theorem dX2_leftAt_0 : decode cX2_leftAt 0 = .ok (.aload_n 0, 1) := by decide +kernel
theorem dX2_leftAt_1 : decode cX2_leftAt 1 = .ok (.iload_n 1, 1) := by decide +kernel
theorem dX2_leftAt_2 : decode cX2_leftAt 2 = .ok (.invokevirtual 32, 3) := by decide +kernel
theorem dX2_leftAt_5 : decode cX2_leftAt 5 = .ok (.ifCond .eq 12, 3) := by decide +kernel
theorem dX2_leftAt_8 : decode cX2_leftAt 8 = .ok (.aload_n 0, 1) := by decide +kernel
theorem dX2_leftAt_9 : decode cX2_leftAt 9 = .ok (.getfield 9, 3) := by decide +kernel
theorem dX2_leftAt_12 : decode cX2_leftAt 12 = .ok (.iload_n 1, 1) := by decide +kernel
theorem dX2_leftAt_13 : decode cX2_leftAt 13 = .ok (.caload, 1) := by decide +kernel
theorem dX2_leftAt_14 : decode cX2_leftAt 14 = .ok (.goto 5, 3) := by decide +kernel
theorem dX2_leftAt_17 : decode cX2_leftAt 17 = .ok (.bipush 59, 2) := by decide +kernel
theorem dX2_leftAt_19 : decode cX2_leftAt 19 = .ok (.ireturn, 1) := by decide +kernel
set_option maxRecDepth 20000 in
theorem ggX2_rightAt_X2_isPlace : GoodIn wsX2_rightAt wsX2_isPlace := goodIn_r _ [6, 7, 8, 9, 10, 11] (by decide +kernel) (by decide +kernel)
set_option maxRecDepth 20000 in
theorem gX2_rightAt_X2_isPlace : GoodIn wsX2_rightAt (wsV RX2 32 RX2 yX2_isPlace wsX2_isPlace) := goodIn_app (goodIn_of _ (by decide +kernel)) ggX2_rightAt_X2_isPlace
theorem dX2_rightAt_0 : decode cX2_rightAt 0 = .ok (.aload_n 0, 1) := by decide +kernel
theorem dX2_rightAt_1 : decode cX2_rightAt 1 = .ok (.iload_n 1, 1) := by decide +kernel
theorem dX2_rightAt_2 : decode cX2_rightAt 2 = .ok (.invokevirtual 32, 3) := by decide +kernel
theorem dX2_rightAt_5 : decode cX2_rightAt 5 = .ok (.ifCond .eq 12, 3) := by decide +kernel
theorem dX2_rightAt_8 : decode cX2_rightAt 8 = .ok (.aload_n 0, 1) := by decide +kernel
theorem dX2_rightAt_9 : decode cX2_rightAt 9 = .ok (.getfield 15, 3) := by decide +kernel
theorem dX2_rightAt_12 : decode cX2_rightAt 12 = .ok (.iload_n 1, 1) := by decide +kernel
theorem dX2_rightAt_13 : decode cX2_rightAt 13 = .ok (.caload, 1) := by decide +kernel
theorem dX2_rightAt_14 : decode cX2_rightAt 14 = .ok (.goto 5, 3) := by decide +kernel
theorem dX2_rightAt_17 : decode cX2_rightAt 17 = .ok (.bipush 59, 2) := by decide +kernel
theorem dX2_rightAt_19 : decode cX2_rightAt 19 = .ok (.ireturn, 1) := by decide +kernel
theorem dX2_adjustmentAt_0 : decode cX2_adjustmentAt 0 = .ok (.iload_n 1, 1) := by decide +kernel
theorem dX2_adjustmentAt_1 : decode cX2_adjustmentAt 1 = .ok (.ifCond .lt 26, 3) := by decide +kernel
theorem dX2_adjustmentAt_4 : decode cX2_adjustmentAt 4 = .ok (.iload_n 1, 1) := by decide +kernel
theorem dX2_adjustmentAt_5 : decode cX2_adjustmentAt 5 = .ok (.aload_n 0, 1) := by decide +kernel
theorem dX2_adjustmentAt_6 : decode cX2_adjustmentAt 6 = .ok (.getfield 22, 3) := by decide +kernel
theorem dX2_adjustmentAt_9 : decode cX2_adjustmentAt 9 = .ok (.if_icmp .ge 18, 3) := by decide +kernel
theorem dX2_adjustmentAt_12 : decode cX2_adjustmentAt 12 = .ok (.iload_n 1, 1) := by decide +kernel
theorem dX2_adjustmentAt_13 : decode cX2_adjustmentAt 13 = .ok (.bipush 16, 2) := by decide +kernel
theorem dX2_adjustmentAt_15 : decode cX2_adjustmentAt 15 = .ok (.if_icmp .ge 12, 3) := by decide +kernel
theorem dX2_adjustmentAt_18 : decode cX2_adjustmentAt 18 = .ok (.aload_n 0, 1) := by decide +kernel
theorem dX2_adjustmentAt_19 : decode cX2_adjustmentAt 19 = .ok (.getfield 18, 3) := by decide +kernel
theorem dX2_adjustmentAt_22 : decode cX2_adjustmentAt 22 = .ok (.iload_n 1, 1) := by decide +kernel
theorem dX2_adjustmentAt_23 : decode cX2_adjustmentAt 23 = .ok (.iaload, 1) := by decide +kernel
theorem dX2_adjustmentAt_24 : decode cX2_adjustmentAt 24 = .ok (.goto 4, 3) := by decide +kernel
theorem dX2_adjustmentAt_27 : decode cX2_adjustmentAt 27 = .ok (.iconst 0, 1) := by decide +kernel
theorem dX2_adjustmentAt_28 : decode cX2_adjustmentAt 28 = .ok (.ireturn, 1) := by decide +kernel
theorem dX2_placeOf_0 : decode cX2_placeOf 0 = .ok (.iconst 0, 1) := by decide +kernel
theorem dX2_placeOf_1 : decode cX2_placeOf 1 = .ok (.istore_n 3, 1) := by decide +kernel
theorem dX2_placeOf_2 : decode cX2_placeOf 2 = .ok (.iload_n 3, 1) := by decide +kernel
theorem dX2_placeOf_3 : decode cX2_placeOf 3 = .ok (.aload_n 0, 1) := by decide +kernel
theorem dX2_placeOf_4 : decode cX2_placeOf 4 = .ok (.getfield 22, 3) := by decide +kernel
theorem dX2_placeOf_7 : decode cX2_placeOf 7 = .ok (.if_icmp .ge 37, 3) := by decide +kernel
theorem dX2_placeOf_10 : decode cX2_placeOf 10 = .ok (.iload_n 3, 1) := by decide +kernel
theorem dX2_placeOf_11 : decode cX2_placeOf 11 = .ok (.bipush 16, 2) := by decide +kernel
theorem dX2_placeOf_13 : decode cX2_placeOf 13 = .ok (.if_icmp .ge 31, 3) := by decide +kernel
theorem dX2_placeOf_16 : decode cX2_placeOf 16 = .ok (.aload_n 0, 1) := by decide +kernel
theorem dX2_placeOf_17 : decode cX2_placeOf 17 = .ok (.getfield 9, 3) := by decide +kernel
theorem dX2_placeOf_20 : decode cX2_placeOf 20 = .ok (.iload_n 3, 1) := by decide +kernel
theorem dX2_placeOf_21 : decode cX2_placeOf 21 = .ok (.caload, 1) := by decide +kernel
theorem dX2_placeOf_22 : decode cX2_placeOf 22 = .ok (.iload_n 1, 1) := by decide +kernel
theorem dX2_placeOf_23 : decode cX2_placeOf 23 = .ok (.if_icmp .ne 15, 3) := by decide +kernel
theorem dX2_placeOf_26 : decode cX2_placeOf 26 = .ok (.aload_n 0, 1) := by decide +kernel
theorem dX2_placeOf_27 : decode cX2_placeOf 27 = .ok (.getfield 15, 3) := by decide +kernel
theorem dX2_placeOf_30 : decode cX2_placeOf 30 = .ok (.iload_n 3, 1) := by decide +kernel
theorem dX2_placeOf_31 : decode cX2_placeOf 31 = .ok (.caload, 1) := by decide +kernel
theorem dX2_placeOf_32 : decode cX2_placeOf 32 = .ok (.iload_n 2, 1) := by decide +kernel
theorem dX2_placeOf_33 : decode cX2_placeOf 33 = .ok (.if_icmp .ne 5, 3) := by decide +kernel
theorem dX2_placeOf_36 : decode cX2_placeOf 36 = .ok (.iload_n 3, 1) := by decide +kernel
theorem dX2_placeOf_37 : decode cX2_placeOf 37 = .ok (.ireturn, 1) := by decide +kernel
theorem dX2_placeOf_38 : decode cX2_placeOf 38 = .ok (.iinc 3 1, 3) := by decide +kernel
theorem dX2_placeOf_41 : decode cX2_placeOf 41 = .ok (.goto (-39), 3) := by decide +kernel
theorem dX2_placeOf_44 : decode cX2_placeOf 44 = .ok (.aload_n 0, 1) := by decide +kernel
theorem dX2_placeOf_45 : decode cX2_placeOf 45 = .ok (.getfield 22, 3) := by decide +kernel
theorem dX2_placeOf_48 : decode cX2_placeOf 48 = .ok (.ireturn, 1) := by decide +kernel
set_option maxRecDepth 20000 in
theorem ggX2_put_X2_placeOf : GoodIn wsX2_put wsX2_placeOf := goodIn_r _ [6, 7, 8, 9, 22, 23, 24, 25] (by decide +kernel) (by decide +kernel)
set_option maxRecDepth 20000 in
theorem gX2_put_X2_placeOf : GoodIn wsX2_put (wsV RX2 36 RX2 yX2_placeOf wsX2_placeOf) := goodIn_app (goodIn_of _ (by decide +kernel)) ggX2_put_X2_placeOf
set_option maxRecDepth 20000 in
theorem ggX2_put_X2_isPlace : GoodIn wsX2_put wsX2_isPlace := goodIn_r _ [13, 7, 22, 23, 24, 25] (by decide +kernel) (by decide +kernel)
set_option maxRecDepth 20000 in
theorem gX2_put_X2_isPlace : GoodIn wsX2_put (wsV RX2 32 RX2 yX2_isPlace wsX2_isPlace) := goodIn_app (goodIn_of _ (by decide +kernel)) ggX2_put_X2_isPlace
set_option maxRecDepth 20000 in
theorem ggX2_put_X2_takeOut : GoodIn wsX2_put wsX2_takeOut := goodIn_r _ [17, 7, 8, 9, 1, 22, 23, 24, 25] (by decide +kernel) (by decide +kernel)
set_option maxRecDepth 20000 in
theorem gX2_put_X2_takeOut : GoodIn wsX2_put (wsV RX2 40 RX2 yX2_takeOut wsX2_takeOut) := goodIn_app (goodIn_of _ (by decide +kernel)) ggX2_put_X2_takeOut
set_option maxRecDepth 20000 in
theorem ggX2_put_X2_append : GoodIn wsX2_put wsX2_append := goodIn_r _ [21, 7, 8, 9, 1, 22, 23, 24, 25] (by decide +kernel) (by decide +kernel)
set_option maxRecDepth 20000 in
theorem gX2_put_X2_append : GoodIn wsX2_put (wsV RX2 44 RX2 yX2_append wsX2_append) := goodIn_app (goodIn_of _ (by decide +kernel)) ggX2_put_X2_append
theorem dX2_put_0 : decode cX2_put 0 = .ok (.aload_n 0, 1) := by decide +kernel
theorem dX2_put_1 : decode cX2_put 1 = .ok (.iload_n 1, 1) := by decide +kernel
theorem dX2_put_2 : decode cX2_put 2 = .ok (.iload_n 2, 1) := by decide +kernel
theorem dX2_put_3 : decode cX2_put 3 = .ok (.invokevirtual 36, 3) := by decide +kernel
theorem dX2_put_6 : decode cX2_put 6 = .ok (.istore 4, 2) := by decide +kernel
theorem dX2_put_8 : decode cX2_put 8 = .ok (.aload_n 0, 1) := by decide +kernel
theorem dX2_put_9 : decode cX2_put 9 = .ok (.iload 4, 2) := by decide +kernel
theorem dX2_put_11 : decode cX2_put 11 = .ok (.invokevirtual 32, 3) := by decide +kernel
theorem dX2_put_14 : decode cX2_put 14 = .ok (.ifCond .eq 18, 3) := by decide +kernel
theorem dX2_put_17 : decode cX2_put 17 = .ok (.iload_n 3, 1) := by decide +kernel
theorem dX2_put_18 : decode cX2_put 18 = .ok (.ifCond .eq 14, 3) := by decide +kernel
theorem dX2_put_21 : decode cX2_put 21 = .ok (.aload_n 0, 1) := by decide +kernel
theorem dX2_put_22 : decode cX2_put 22 = .ok (.getfield 18, 3) := by decide +kernel
theorem dX2_put_25 : decode cX2_put 25 = .ok (.iload 4, 2) := by decide +kernel
theorem dX2_put_27 : decode cX2_put 27 = .ok (.iload_n 3, 1) := by decide +kernel
theorem dX2_put_28 : decode cX2_put 28 = .ok (.iastore, 1) := by decide +kernel
theorem dX2_put_29 : decode cX2_put 29 = .ok (.goto 32, 3) := by decide +kernel
theorem dX2_put_32 : decode cX2_put 32 = .ok (.aload_n 0, 1) := by decide +kernel
theorem dX2_put_33 : decode cX2_put 33 = .ok (.iload 4, 2) := by decide +kernel
theorem dX2_put_35 : decode cX2_put 35 = .ok (.invokevirtual 32, 3) := by decide +kernel
theorem dX2_put_38 : decode cX2_put 38 = .ok (.ifCond .eq 12, 3) := by decide +kernel
theorem dX2_put_41 : decode cX2_put 41 = .ok (.aload_n 0, 1) := by decide +kernel
theorem dX2_put_42 : decode cX2_put 42 = .ok (.iload 4, 2) := by decide +kernel
theorem dX2_put_44 : decode cX2_put 44 = .ok (.invokevirtual 40, 3) := by decide +kernel
theorem dX2_put_47 : decode cX2_put 47 = .ok (.goto 14, 3) := by decide +kernel
theorem dX2_put_50 : decode cX2_put 50 = .ok (.iload_n 3, 1) := by decide +kernel
theorem dX2_put_51 : decode cX2_put 51 = .ok (.ifCond .eq 10, 3) := by decide +kernel
theorem dX2_put_54 : decode cX2_put 54 = .ok (.aload_n 0, 1) := by decide +kernel
theorem dX2_put_55 : decode cX2_put 55 = .ok (.iload_n 1, 1) := by decide +kernel
theorem dX2_put_56 : decode cX2_put 56 = .ok (.iload_n 2, 1) := by decide +kernel
theorem dX2_put_57 : decode cX2_put 57 = .ok (.iload_n 3, 1) := by decide +kernel
theorem dX2_put_58 : decode cX2_put 58 = .ok (.invokevirtual 44, 3) := by decide +kernel
theorem dX2_put_61 : decode cX2_put 61 = .ok (.return_, 1) := by decide +kernel
theorem dX2_append_0 : decode cX2_append 0 = .ok (.aload_n 0, 1) := by decide +kernel
theorem dX2_append_1 : decode cX2_append 1 = .ok (.getfield 22, 3) := by decide +kernel
theorem dX2_append_4 : decode cX2_append 4 = .ok (.ifCond .lt 52, 3) := by decide +kernel
theorem dX2_append_7 : decode cX2_append 7 = .ok (.aload_n 0, 1) := by decide +kernel
theorem dX2_append_8 : decode cX2_append 8 = .ok (.getfield 22, 3) := by decide +kernel
theorem dX2_append_11 : decode cX2_append 11 = .ok (.bipush 16, 2) := by decide +kernel
theorem dX2_append_13 : decode cX2_append 13 = .ok (.if_icmp .ge 43, 3) := by decide +kernel
theorem dX2_append_16 : decode cX2_append 16 = .ok (.aload_n 0, 1) := by decide +kernel
theorem dX2_append_17 : decode cX2_append 17 = .ok (.getfield 9, 3) := by decide +kernel
theorem dX2_append_20 : decode cX2_append 20 = .ok (.aload_n 0, 1) := by decide +kernel
theorem dX2_append_21 : decode cX2_append 21 = .ok (.getfield 22, 3) := by decide +kernel
theorem dX2_append_24 : decode cX2_append 24 = .ok (.iload_n 1, 1) := by decide +kernel
theorem dX2_append_25 : decode cX2_append 25 = .ok (.castore, 1) := by decide +kernel
theorem dX2_append_26 : decode cX2_append 26 = .ok (.aload_n 0, 1) := by decide +kernel
theorem dX2_append_27 : decode cX2_append 27 = .ok (.getfield 15, 3) := by decide +kernel
theorem dX2_append_30 : decode cX2_append 30 = .ok (.aload_n 0, 1) := by decide +kernel
theorem dX2_append_31 : decode cX2_append 31 = .ok (.getfield 22, 3) := by decide +kernel
theorem dX2_append_34 : decode cX2_append 34 = .ok (.iload_n 2, 1) := by decide +kernel
theorem dX2_append_35 : decode cX2_append 35 = .ok (.castore, 1) := by decide +kernel
theorem dX2_append_36 : decode cX2_append 36 = .ok (.aload_n 0, 1) := by decide +kernel
theorem dX2_append_37 : decode cX2_append 37 = .ok (.getfield 18, 3) := by decide +kernel
theorem dX2_append_40 : decode cX2_append 40 = .ok (.aload_n 0, 1) := by decide +kernel
theorem dX2_append_41 : decode cX2_append 41 = .ok (.getfield 22, 3) := by decide +kernel
theorem dX2_append_44 : decode cX2_append 44 = .ok (.iload_n 3, 1) := by decide +kernel
theorem dX2_append_45 : decode cX2_append 45 = .ok (.iastore, 1) := by decide +kernel
theorem dX2_append_46 : decode cX2_append 46 = .ok (.aload_n 0, 1) := by decide +kernel
theorem dX2_append_47 : decode cX2_append 47 = .ok (.dup, 1) := by decide +kernel
theorem dX2_append_48 : decode cX2_append 48 = .ok (.getfield 22, 3) := by decide +kernel
theorem dX2_append_51 : decode cX2_append 51 = .ok (.iconst 1, 1) := by decide +kernel
theorem dX2_append_52 : decode cX2_append 52 = .ok (.iadd, 1) := by decide +kernel
theorem dX2_append_53 : decode cX2_append 53 = .ok (.putfield 22, 3) := by decide +kernel
theorem dX2_append_56 : decode cX2_append 56 = .ok (.return_, 1) := by decide +kernel
theorem dX2_takeOut_0 : decode cX2_takeOut 0 = .ok (.iload_n 1, 1) := by decide +kernel
theorem dX2_takeOut_1 : decode cX2_takeOut 1 = .ok (.iconst 1, 1) := by decide +kernel
theorem dX2_takeOut_2 : decode cX2_takeOut 2 = .ok (.iadd, 1) := by decide +kernel
theorem dX2_takeOut_3 : decode cX2_takeOut 3 = .ok (.istore_n 2, 1) := by decide +kernel
theorem dX2_takeOut_4 : decode cX2_takeOut 4 = .ok (.iload_n 2, 1) := by decide +kernel
theorem dX2_takeOut_5 : decode cX2_takeOut 5 = .ok (.aload_n 0, 1) := by decide +kernel
theorem dX2_takeOut_6 : decode cX2_takeOut 6 = .ok (.getfield 22, 3) := by decide +kernel
theorem dX2_takeOut_9 : decode cX2_takeOut 9 = .ok (.if_icmp .ge 57, 3) := by decide +kernel
theorem dX2_takeOut_12 : decode cX2_takeOut 12 = .ok (.iload_n 2, 1) := by decide +kernel
theorem dX2_takeOut_13 : decode cX2_takeOut 13 = .ok (.bipush 16, 2) := by decide +kernel
theorem dX2_takeOut_15 : decode cX2_takeOut 15 = .ok (.if_icmp .ge 51, 3) := by decide +kernel
theorem dX2_takeOut_18 : decode cX2_takeOut 18 = .ok (.aload_n 0, 1) := by decide +kernel
theorem dX2_takeOut_19 : decode cX2_takeOut 19 = .ok (.getfield 9, 3) := by decide +kernel
theorem dX2_takeOut_22 : decode cX2_takeOut 22 = .ok (.iload_n 2, 1) := by decide +kernel
theorem dX2_takeOut_23 : decode cX2_takeOut 23 = .ok (.iconst 1, 1) := by decide +kernel
theorem dX2_takeOut_24 : decode cX2_takeOut 24 = .ok (.isub, 1) := by decide +kernel
theorem dX2_takeOut_25 : decode cX2_takeOut 25 = .ok (.aload_n 0, 1) := by decide +kernel
theorem dX2_takeOut_26 : decode cX2_takeOut 26 = .ok (.getfield 9, 3) := by decide +kernel
theorem dX2_takeOut_29 : decode cX2_takeOut 29 = .ok (.iload_n 2, 1) := by decide +kernel
theorem dX2_takeOut_30 : decode cX2_takeOut 30 = .ok (.caload, 1) := by decide +kernel
theorem dX2_takeOut_31 : decode cX2_takeOut 31 = .ok (.castore, 1) := by decide +kernel
theorem dX2_takeOut_32 : decode cX2_takeOut 32 = .ok (.aload_n 0, 1) := by decide +kernel
theorem dX2_takeOut_33 : decode cX2_takeOut 33 = .ok (.getfield 15, 3) := by decide +kernel
theorem dX2_takeOut_36 : decode cX2_takeOut 36 = .ok (.iload_n 2, 1) := by decide +kernel
theorem dX2_takeOut_37 : decode cX2_takeOut 37 = .ok (.iconst 1, 1) := by decide +kernel
theorem dX2_takeOut_38 : decode cX2_takeOut 38 = .ok (.isub, 1) := by decide +kernel
theorem dX2_takeOut_39 : decode cX2_takeOut 39 = .ok (.aload_n 0, 1) := by decide +kernel
theorem dX2_takeOut_40 : decode cX2_takeOut 40 = .ok (.getfield 15, 3) := by decide +kernel
theorem dX2_takeOut_43 : decode cX2_takeOut 43 = .ok (.iload_n 2, 1) := by decide +kernel
theorem dX2_takeOut_44 : decode cX2_takeOut 44 = .ok (.caload, 1) := by decide +kernel
theorem dX2_takeOut_45 : decode cX2_takeOut 45 = .ok (.castore, 1) := by decide +kernel
theorem dX2_takeOut_46 : decode cX2_takeOut 46 = .ok (.aload_n 0, 1) := by decide +kernel
theorem dX2_takeOut_47 : decode cX2_takeOut 47 = .ok (.getfield 18, 3) := by decide +kernel
theorem dX2_takeOut_50 : decode cX2_takeOut 50 = .ok (.iload_n 2, 1) := by decide +kernel
theorem dX2_takeOut_51 : decode cX2_takeOut 51 = .ok (.iconst 1, 1) := by decide +kernel
theorem dX2_takeOut_52 : decode cX2_takeOut 52 = .ok (.isub, 1) := by decide +kernel
theorem dX2_takeOut_53 : decode cX2_takeOut 53 = .ok (.aload_n 0, 1) := by decide +kernel
theorem dX2_takeOut_54 : decode cX2_takeOut 54 = .ok (.getfield 18, 3) := by decide +kernel
theorem dX2_takeOut_57 : decode cX2_takeOut 57 = .ok (.iload_n 2, 1) := by decide +kernel
theorem dX2_takeOut_58 : decode cX2_takeOut 58 = .ok (.iaload, 1) := by decide +kernel
theorem dX2_takeOut_59 : decode cX2_takeOut 59 = .ok (.iastore, 1) := by decide +kernel
theorem dX2_takeOut_60 : decode cX2_takeOut 60 = .ok (.iinc 2 1, 3) := by decide +kernel
theorem dX2_takeOut_63 : decode cX2_takeOut 63 = .ok (.goto (-59), 3) := by decide +kernel
theorem dX2_takeOut_66 : decode cX2_takeOut 66 = .ok (.aload_n 0, 1) := by decide +kernel
theorem dX2_takeOut_67 : decode cX2_takeOut 67 = .ok (.dup, 1) := by decide +kernel
theorem dX2_takeOut_68 : decode cX2_takeOut 68 = .ok (.getfield 22, 3) := by decide +kernel
theorem dX2_takeOut_71 : decode cX2_takeOut 71 = .ok (.iconst 1, 1) := by decide +kernel
theorem dX2_takeOut_72 : decode cX2_takeOut 72 = .ok (.isub, 1) := by decide +kernel
theorem dX2_takeOut_73 : decode cX2_takeOut 73 = .ok (.putfield 22, 3) := by decide +kernel
theorem dX2_takeOut_76 : decode cX2_takeOut 76 = .ok (.return_, 1) := by decide +kernel
theorem dX3_isLetter_0 : decode cX3_isLetter 0 = .ok (.iload_n 0, 1) := by decide +kernel
theorem dX3_isLetter_1 : decode cX3_isLetter 1 = .ok (.bipush 65, 2) := by decide +kernel
theorem dX3_isLetter_3 : decode cX3_isLetter 3 = .ok (.if_icmp .lt 13, 3) := by decide +kernel
theorem dX3_isLetter_6 : decode cX3_isLetter 6 = .ok (.iload_n 0, 1) := by decide +kernel
theorem dX3_isLetter_7 : decode cX3_isLetter 7 = .ok (.bipush 90, 2) := by decide +kernel
theorem dX3_isLetter_9 : decode cX3_isLetter 9 = .ok (.if_icmp .gt 7, 3) := by decide +kernel
theorem dX3_isLetter_12 : decode cX3_isLetter 12 = .ok (.iconst 1, 1) := by decide +kernel
theorem dX3_isLetter_13 : decode cX3_isLetter 13 = .ok (.goto 4, 3) := by decide +kernel
theorem dX3_isLetter_16 : decode cX3_isLetter 16 = .ok (.iconst 0, 1) := by decide +kernel
theorem dX3_isLetter_17 : decode cX3_isLetter 17 = .ok (.ireturn, 1) := by decide +kernel
theorem dX3_isMark_0 : decode cX3_isMark 0 = .ok (.iload_n 0, 1) := by decide +kernel
theorem dX3_isMark_1 : decode cX3_isMark 1 = .ok (.bipush 46, 2) := by decide +kernel
theorem dX3_isMark_3 : decode cX3_isMark 3 = .ok (.if_icmp .eq 9, 3) := by decide +kernel
theorem dX3_isMark_6 : decode cX3_isMark 6 = .ok (.iload_n 0, 1) := by decide +kernel
theorem dX3_isMark_7 : decode cX3_isMark 7 = .ok (.bipush 45, 2) := by decide +kernel
theorem dX3_isMark_9 : decode cX3_isMark 9 = .ok (.if_icmp .ne 7, 3) := by decide +kernel
theorem dX3_isMark_12 : decode cX3_isMark 12 = .ok (.iconst 1, 1) := by decide +kernel
theorem dX3_isMark_13 : decode cX3_isMark 13 = .ok (.goto 4, 3) := by decide +kernel
theorem dX3_isMark_16 : decode cX3_isMark 16 = .ok (.iconst 0, 1) := by decide +kernel
theorem dX3_isMark_17 : decode cX3_isMark 17 = .ok (.ireturn, 1) := by decide +kernel
set_option maxRecDepth 20000 in
theorem ggX3_isKnown_X3_isLetter : GoodIn wsX3_isKnown wsX3_isLetter := goodIn_r _ [4] (by decide +kernel) (by decide +kernel)
set_option maxRecDepth 20000 in
theorem gX3_isKnown_X3_isLetter : GoodIn wsX3_isKnown (va_wsS RX3 7 yX3_isLetter wsX3_isLetter) := goodIn_app (goodIn_of _ (by decide +kernel)) ggX3_isKnown_X3_isLetter
set_option maxRecDepth 20000 in
theorem ggX3_isKnown_X3_isMark : GoodIn wsX3_isKnown wsX3_isMark := goodIn_r _ [7] (by decide +kernel) (by decide +kernel)
set_option maxRecDepth 20000 in
theorem gX3_isKnown_X3_isMark : GoodIn wsX3_isKnown (va_wsS RX3 13 yX3_isMark wsX3_isMark) := goodIn_app (goodIn_of _ (by decide +kernel)) ggX3_isKnown_X3_isMark
theorem dX3_isKnown_0 : decode cX3_isKnown 0 = .ok (.iload_n 0, 1) := by decide +kernel
theorem dX3_isKnown_1 : decode cX3_isKnown 1 = .ok (.invokestatic 7, 3) := by decide +kernel
theorem dX3_isKnown_4 : decode cX3_isKnown 4 = .ok (.ifCond .ne 10, 3) := by decide +kernel
theorem dX3_isKnown_7 : decode cX3_isKnown 7 = .ok (.iload_n 0, 1) := by decide +kernel
theorem dX3_isKnown_8 : decode cX3_isKnown 8 = .ok (.invokestatic 13, 3) := by decide +kernel
theorem dX3_isKnown_11 : decode cX3_isKnown 11 = .ok (.ifCond .eq 7, 3) := by decide +kernel
theorem dX3_isKnown_14 : decode cX3_isKnown 14 = .ok (.iconst 1, 1) := by decide +kernel
theorem dX3_isKnown_15 : decode cX3_isKnown 15 = .ok (.goto 4, 3) := by decide +kernel
theorem dX3_isKnown_18 : decode cX3_isKnown 18 = .ok (.iconst 0, 1) := by decide +kernel
theorem dX3_isKnown_19 : decode cX3_isKnown 19 = .ok (.ireturn, 1) := by decide +kernel
theorem dX3_width_0 : decode cX3_width 0 = .ok (.iload_n 0, 1) := by decide +kernel
theorem dX3_width_1 : decode cX3_width 1 = .ok (.bipush 46, 2) := by decide +kernel
theorem dX3_width_3 : decode cX3_width 3 = .ok (.if_icmp .ne 5, 3) := by decide +kernel
theorem dX3_width_6 : decode cX3_width 6 = .ok (.iconst 2, 1) := by decide +kernel
theorem dX3_width_7 : decode cX3_width 7 = .ok (.ireturn, 1) := by decide +kernel
theorem dX3_width_8 : decode cX3_width 8 = .ok (.iload_n 0, 1) := by decide +kernel
theorem dX3_width_9 : decode cX3_width 9 = .ok (.bipush 45, 2) := by decide +kernel
theorem dX3_width_11 : decode cX3_width 11 = .ok (.if_icmp .ne 5, 3) := by decide +kernel
theorem dX3_width_14 : decode cX3_width 14 = .ok (.iconst 4, 1) := by decide +kernel
theorem dX3_width_15 : decode cX3_width 15 = .ok (.ireturn, 1) := by decide +kernel
theorem dX3_width_16 : decode cX3_width 16 = .ok (.iconst 3, 1) := by decide +kernel
theorem dX3_width_17 : decode cX3_width 17 = .ok (.iload_n 0, 1) := by decide +kernel
theorem dX3_width_18 : decode cX3_width 18 = .ok (.bipush 65, 2) := by decide +kernel
theorem dX3_width_20 : decode cX3_width 20 = .ok (.isub, 1) := by decide +kernel
theorem dX3_width_21 : decode cX3_width 21 = .ok (.iconst 5, 1) := by decide +kernel
theorem dX3_width_22 : decode cX3_width 22 = .ok (.imul, 1) := by decide +kernel
theorem dX3_width_23 : decode cX3_width 23 = .ok (.bipush 7, 2) := by decide +kernel
theorem dX3_width_25 : decode cX3_width 25 = .ok (.irem, 1) := by decide +kernel
theorem dX3_width_26 : decode cX3_width 26 = .ok (.iadd, 1) := by decide +kernel
theorem dX3_width_27 : decode cX3_width 27 = .ok (.ireturn, 1) := by decide +kernel
theorem dX3_openness_0 : decode cX3_openness 0 = .ok (.iload_n 0, 1) := by decide +kernel
theorem dX3_openness_1 : decode cX3_openness 1 = .ok (.bipush 46, 2) := by decide +kernel
theorem dX3_openness_3 : decode cX3_openness 3 = .ok (.if_icmp .eq 9, 3) := by decide +kernel
theorem dX3_openness_6 : decode cX3_openness 6 = .ok (.iload_n 0, 1) := by decide +kernel
theorem dX3_openness_7 : decode cX3_openness 7 = .ok (.bipush 45, 2) := by decide +kernel
theorem dX3_openness_9 : decode cX3_openness 9 = .ok (.if_icmp .ne 5, 3) := by decide +kernel
theorem dX3_openness_12 : decode cX3_openness 12 = .ok (.iconst 2, 1) := by decide +kernel
theorem dX3_openness_13 : decode cX3_openness 13 = .ok (.ireturn, 1) := by decide +kernel
theorem dX3_openness_14 : decode cX3_openness 14 = .ok (.iload_n 0, 1) := by decide +kernel
theorem dX3_openness_15 : decode cX3_openness 15 = .ok (.bipush 65, 2) := by decide +kernel
theorem dX3_openness_17 : decode cX3_openness 17 = .ok (.isub, 1) := by decide +kernel
theorem dX3_openness_18 : decode cX3_openness 18 = .ok (.iconst 3, 1) := by decide +kernel
theorem dX3_openness_19 : decode cX3_openness 19 = .ok (.irem, 1) := by decide +kernel
theorem dX3_openness_20 : decode cX3_openness 20 = .ok (.ireturn, 1) := by decide +kernel
theorem dX3_ink_0 : decode cX3_ink 0 = .ok (.iload_n 0, 1) := by decide +kernel
theorem dX3_ink_1 : decode cX3_ink 1 = .ok (.bipush 46, 2) := by decide +kernel
theorem dX3_ink_3 : decode cX3_ink 3 = .ok (.if_icmp .ne 5, 3) := by decide +kernel
theorem dX3_ink_6 : decode cX3_ink 6 = .ok (.iconst 1, 1) := by decide +kernel
theorem dX3_ink_7 : decode cX3_ink 7 = .ok (.ireturn, 1) := by decide +kernel
theorem dX3_ink_8 : decode cX3_ink 8 = .ok (.iload_n 0, 1) := by decide +kernel
theorem dX3_ink_9 : decode cX3_ink 9 = .ok (.bipush 45, 2) := by decide +kernel
theorem dX3_ink_11 : decode cX3_ink 11 = .ok (.if_icmp .ne 5, 3) := by decide +kernel
theorem dX3_ink_14 : decode cX3_ink 14 = .ok (.iconst 2, 1) := by decide +kernel
theorem dX3_ink_15 : decode cX3_ink 15 = .ok (.ireturn, 1) := by decide +kernel
theorem dX3_ink_16 : decode cX3_ink 16 = .ok (.iconst 1, 1) := by decide +kernel
theorem dX3_ink_17 : decode cX3_ink 17 = .ok (.iload_n 0, 1) := by decide +kernel
theorem dX3_ink_18 : decode cX3_ink 18 = .ok (.bipush 65, 2) := by decide +kernel
theorem dX3_ink_20 : decode cX3_ink 20 = .ok (.isub, 1) := by decide +kernel
theorem dX3_ink_21 : decode cX3_ink 21 = .ok (.iconst 3, 1) := by decide +kernel
theorem dX3_ink_22 : decode cX3_ink 22 = .ok (.imul, 1) := by decide +kernel
theorem dX3_ink_23 : decode cX3_ink 23 = .ok (.iconst 5, 1) := by decide +kernel
theorem dX3_ink_24 : decode cX3_ink 24 = .ok (.irem, 1) := by decide +kernel
theorem dX3_ink_25 : decode cX3_ink 25 = .ok (.iadd, 1) := by decide +kernel
theorem dX3_ink_26 : decode cX3_ink 26 = .ok (.ireturn, 1) := by decide +kernel
set_option maxRecDepth 20000 in
theorem ggX4_init_X1_init : GoodIn wsX4_init wsX1_init := goodIn_r _ [21, 22, 2, 3, 23, 24, 25, 26, 27, 35, 36, 37] (by decide +kernel) (by decide +kernel)
set_option maxRecDepth 20000 in
theorem gX4_init_X1_init_n11 : GoodIn wsX4_init (wsX1_init) := ggX4_init_X1_init
set_option maxRecDepth 20000 in
theorem ggX4_init_X2_init : GoodIn wsX4_init wsX2_init := goodIn_r _ [29, 30, 2, 3, 23, 31, 32, 25, 33, 34, 48, 49, 50, 51] (by decide +kernel) (by decide +kernel)
set_option maxRecDepth 20000 in
theorem gX4_init_X2_init_n20 : GoodIn wsX4_init (wsX2_init) := ggX4_init_X2_init
theorem dX4_init_0 : decode cX4_init 0 = .ok (.aload_n 0, 1) := by decide +kernel
theorem dX4_init_1 : decode cX4_init 1 = .ok (.invokespecial 3, 3) := by decide +kernel
theorem dX4_init_4 : decode cX4_init 4 = .ok (.aload_n 0, 1) := by decide +kernel
theorem dX4_init_5 : decode cX4_init 5 = .ok (.new 9, 3) := by decide +kernel
theorem dX4_init_8 : decode cX4_init 8 = .ok (.dup, 1) := by decide +kernel
theorem dX4_init_9 : decode cX4_init 9 = .ok (.invokespecial 11, 3) := by decide +kernel
theorem dX4_init_12 : decode cX4_init 12 = .ok (.putfield 12, 3) := by decide +kernel
theorem dX4_init_15 : decode cX4_init 15 = .ok (.aload_n 0, 1) := by decide +kernel
theorem dX4_init_16 : decode cX4_init 16 = .ok (.new 18, 3) := by decide +kernel
theorem dX4_init_19 : decode cX4_init 19 = .ok (.dup, 1) := by decide +kernel
theorem dX4_init_20 : decode cX4_init 20 = .ok (.invokespecial 20, 3) := by decide +kernel
theorem dX4_init_23 : decode cX4_init 23 = .ok (.putfield 21, 3) := by decide +kernel
theorem dX4_init_26 : decode cX4_init 26 = .ok (.aload_n 0, 1) := by decide +kernel
theorem dX4_init_27 : decode cX4_init 27 = .ok (.sipush 2000, 3) := by decide +kernel
theorem dX4_init_30 : decode cX4_init 30 = .ok (.putfield 25, 3) := by decide +kernel
theorem dX4_init_33 : decode cX4_init 33 = .ok (.aload_n 0, 1) := by decide +kernel
theorem dX4_init_34 : decode cX4_init 34 = .ok (.sipush 1000, 3) := by decide +kernel
theorem dX4_init_37 : decode cX4_init 37 = .ok (.putfield 29, 3) := by decide +kernel
theorem dX4_init_40 : decode cX4_init 40 = .ok (.aload_n 0, 1) := by decide +kernel
theorem dX4_init_41 : decode cX4_init 41 = .ok (.bipush 20, 2) := by decide +kernel
theorem dX4_init_43 : decode cX4_init 43 = .ok (.putfield 32, 3) := by decide +kernel
theorem dX4_init_46 : decode cX4_init 46 = .ok (.aload_n 0, 1) := by decide +kernel
theorem dX4_init_47 : decode cX4_init 47 = .ok (.iconst 1, 1) := by decide +kernel
theorem dX4_init_48 : decode cX4_init 48 = .ok (.putfield 35, 3) := by decide +kernel
theorem dX4_init_51 : decode cX4_init 51 = .ok (.aload_n 0, 1) := by decide +kernel
theorem dX4_init_52 : decode cX4_init 52 = .ok (.iconst 0, 1) := by decide +kernel
theorem dX4_init_53 : decode cX4_init 53 = .ok (.putfield 38, 3) := by decide +kernel
theorem dX4_init_56 : decode cX4_init 56 = .ok (.aload_n 0, 1) := by decide +kernel
theorem dX4_init_57 : decode cX4_init 57 = .ok (.iconst 0, 1) := by decide +kernel
theorem dX4_init_58 : decode cX4_init 58 = .ok (.putfield 41, 3) := by decide +kernel
theorem dX4_init_61 : decode cX4_init 61 = .ok (.aload_n 0, 1) := by decide +kernel
theorem dX4_init_62 : decode cX4_init 62 = .ok (.iconst 0, 1) := by decide +kernel
theorem dX4_init_63 : decode cX4_init 63 = .ok (.putfield 44, 3) := by decide +kernel
theorem dX4_init_66 : decode cX4_init 66 = .ok (.aload_n 0, 1) := by decide +kernel
theorem dX4_init_67 : decode cX4_init 67 = .ok (.iconst 0, 1) := by decide +kernel
theorem dX4_init_68 : decode cX4_init 68 = .ok (.putfield 47, 3) := by decide +kernel
theorem dX4_init_71 : decode cX4_init 71 = .ok (.return_, 1) := by decide +kernel
set_option maxRecDepth 20000 in
theorem ggX4_copyFrom_X1_copyFrom : GoodIn wsX4_copyFrom wsX1_copyFrom := goodIn_r _ [15, 16, 17, 18, 19, 20, 21, 22, 43, 44, 45] (by decide +kernel) (by decide +kernel)
set_option maxRecDepth 20000 in
theorem gX4_copyFrom_X1_copyFrom : GoodIn wsX4_copyFrom (wsV RX4 50 RX1 yX1_copyFrom wsX1_copyFrom) := goodIn_app (goodIn_of _ (by decide +kernel)) ggX4_copyFrom_X1_copyFrom
set_option maxRecDepth 20000 in
theorem ggX4_copyFrom_X2_copyFrom : GoodIn wsX4_copyFrom wsX2_copyFrom := goodIn_r _ [27, 28, 29, 18, 19, 20, 30, 31, 32, 46, 47, 48, 49] (by decide +kernel) (by decide +kernel)
set_option maxRecDepth 20000 in
theorem gX4_copyFrom_X2_copyFrom : GoodIn wsX4_copyFrom (wsV RX4 54 RX2 yX2_copyFrom wsX2_copyFrom) := goodIn_app (goodIn_of _ (by decide +kernel)) ggX4_copyFrom_X2_copyFrom
theorem dX4_copyFrom_0 : decode cX4_copyFrom 0 = .ok (.aload_n 0, 1) := by decide +kernel
theorem dX4_copyFrom_1 : decode cX4_copyFrom 1 = .ok (.getfield 12, 3) := by decide +kernel
theorem dX4_copyFrom_4 : decode cX4_copyFrom 4 = .ok (.aload_n 1, 1) := by decide +kernel
theorem dX4_copyFrom_5 : decode cX4_copyFrom 5 = .ok (.getfield 12, 3) := by decide +kernel
theorem dX4_copyFrom_8 : decode cX4_copyFrom 8 = .ok (.invokevirtual 50, 3) := by decide +kernel
theorem dX4_copyFrom_11 : decode cX4_copyFrom 11 = .ok (.aload_n 0, 1) := by decide +kernel
theorem dX4_copyFrom_12 : decode cX4_copyFrom 12 = .ok (.getfield 21, 3) := by decide +kernel
theorem dX4_copyFrom_15 : decode cX4_copyFrom 15 = .ok (.aload_n 1, 1) := by decide +kernel
theorem dX4_copyFrom_16 : decode cX4_copyFrom 16 = .ok (.getfield 21, 3) := by decide +kernel
theorem dX4_copyFrom_19 : decode cX4_copyFrom 19 = .ok (.invokevirtual 54, 3) := by decide +kernel
theorem dX4_copyFrom_22 : decode cX4_copyFrom 22 = .ok (.aload_n 0, 1) := by decide +kernel
theorem dX4_copyFrom_23 : decode cX4_copyFrom 23 = .ok (.aload_n 1, 1) := by decide +kernel
theorem dX4_copyFrom_24 : decode cX4_copyFrom 24 = .ok (.getfield 25, 3) := by decide +kernel
theorem dX4_copyFrom_27 : decode cX4_copyFrom 27 = .ok (.putfield 25, 3) := by decide +kernel
theorem dX4_copyFrom_30 : decode cX4_copyFrom 30 = .ok (.aload_n 0, 1) := by decide +kernel
theorem dX4_copyFrom_31 : decode cX4_copyFrom 31 = .ok (.aload_n 1, 1) := by decide +kernel
theorem dX4_copyFrom_32 : decode cX4_copyFrom 32 = .ok (.getfield 29, 3) := by decide +kernel
theorem dX4_copyFrom_35 : decode cX4_copyFrom 35 = .ok (.putfield 29, 3) := by decide +kernel
theorem dX4_copyFrom_38 : decode cX4_copyFrom 38 = .ok (.aload_n 0, 1) := by decide +kernel
theorem dX4_copyFrom_39 : decode cX4_copyFrom 39 = .ok (.aload_n 1, 1) := by decide +kernel
theorem dX4_copyFrom_40 : decode cX4_copyFrom 40 = .ok (.getfield 32, 3) := by decide +kernel
theorem dX4_copyFrom_43 : decode cX4_copyFrom 43 = .ok (.putfield 32, 3) := by decide +kernel
theorem dX4_copyFrom_46 : decode cX4_copyFrom 46 = .ok (.aload_n 0, 1) := by decide +kernel
theorem dX4_copyFrom_47 : decode cX4_copyFrom 47 = .ok (.aload_n 1, 1) := by decide +kernel
theorem dX4_copyFrom_48 : decode cX4_copyFrom 48 = .ok (.getfield 35, 3) := by decide +kernel
theorem dX4_copyFrom_51 : decode cX4_copyFrom 51 = .ok (.putfield 35, 3) := by decide +kernel
theorem dX4_copyFrom_54 : decode cX4_copyFrom 54 = .ok (.aload_n 0, 1) := by decide +kernel
theorem dX4_copyFrom_55 : decode cX4_copyFrom 55 = .ok (.aload_n 1, 1) := by decide +kernel
theorem dX4_copyFrom_56 : decode cX4_copyFrom 56 = .ok (.getfield 38, 3) := by decide +kernel
theorem dX4_copyFrom_59 : decode cX4_copyFrom 59 = .ok (.putfield 38, 3) := by decide +kernel
theorem dX4_copyFrom_62 : decode cX4_copyFrom 62 = .ok (.aload_n 0, 1) := by decide +kernel
theorem dX4_copyFrom_63 : decode cX4_copyFrom 63 = .ok (.aload_n 1, 1) := by decide +kernel
theorem dX4_copyFrom_64 : decode cX4_copyFrom 64 = .ok (.getfield 41, 3) := by decide +kernel
theorem dX4_copyFrom_67 : decode cX4_copyFrom 67 = .ok (.putfield 41, 3) := by decide +kernel
theorem dX4_copyFrom_70 : decode cX4_copyFrom 70 = .ok (.aload_n 0, 1) := by decide +kernel
theorem dX4_copyFrom_71 : decode cX4_copyFrom 71 = .ok (.aload_n 1, 1) := by decide +kernel
theorem dX4_copyFrom_72 : decode cX4_copyFrom 72 = .ok (.getfield 44, 3) := by decide +kernel
theorem dX4_copyFrom_75 : decode cX4_copyFrom 75 = .ok (.putfield 44, 3) := by decide +kernel
theorem dX4_copyFrom_78 : decode cX4_copyFrom 78 = .ok (.aload_n 0, 1) := by decide +kernel
theorem dX4_copyFrom_79 : decode cX4_copyFrom 79 = .ok (.aload_n 1, 1) := by decide +kernel
theorem dX4_copyFrom_80 : decode cX4_copyFrom 80 = .ok (.getfield 47, 3) := by decide +kernel
theorem dX4_copyFrom_83 : decode cX4_copyFrom 83 = .ok (.putfield 47, 3) := by decide +kernel
theorem dX4_copyFrom_86 : decode cX4_copyFrom 86 = .ok (.return_, 1) := by decide +kernel
set_option maxRecDepth 20000 in
theorem ggX4_cutAnew_X4_engravedNames : GoodIn wsX4_cutAnew wsX4_engravedNames := goodIn_r _ [10, 3, 11, 12, 13, 14, 15, 16, 17, 18, 19, 20, 21, 22, 23, 24, 25, 26, 27] (by decide +kernel) (by decide +kernel)
set_option maxRecDepth 20000 in
theorem gX4_cutAnew_X4_engravedNames : GoodIn wsX4_cutAnew (wsV RX4 57 RX4 yX4_engravedNames wsX4_engravedNames) := goodIn_app (goodIn_of _ (by decide +kernel)) ggX4_cutAnew_X4_engravedNames
theorem dX4_cutAnew_0 : decode cX4_cutAnew 0 = .ok (.aload_n 0, 1) := by decide +kernel
theorem dX4_cutAnew_1 : decode cX4_cutAnew 1 = .ok (.invokevirtual 57, 3) := by decide +kernel
theorem dX4_cutAnew_4 : decode cX4_cutAnew 4 = .ok (.istore_n 3, 1) := by decide +kernel
theorem dX4_cutAnew_5 : decode cX4_cutAnew 5 = .ok (.aload_n 0, 1) := by decide +kernel
theorem dX4_cutAnew_6 : decode cX4_cutAnew 6 = .ok (.iload_n 1, 1) := by decide +kernel
theorem dX4_cutAnew_7 : decode cX4_cutAnew 7 = .ok (.putfield 25, 3) := by decide +kernel
theorem dX4_cutAnew_10 : decode cX4_cutAnew 10 = .ok (.aload_n 0, 1) := by decide +kernel
theorem dX4_cutAnew_11 : decode cX4_cutAnew 11 = .ok (.iload_n 2, 1) := by decide +kernel
theorem dX4_cutAnew_12 : decode cX4_cutAnew 12 = .ok (.putfield 29, 3) := by decide +kernel
theorem dX4_cutAnew_15 : decode cX4_cutAnew 15 = .ok (.aload_n 0, 1) := by decide +kernel
theorem dX4_cutAnew_16 : decode cX4_cutAnew 16 = .ok (.iconst 0, 1) := by decide +kernel
theorem dX4_cutAnew_17 : decode cX4_cutAnew 17 = .ok (.putfield 38, 3) := by decide +kernel
theorem dX4_cutAnew_20 : decode cX4_cutAnew 20 = .ok (.aload_n 0, 1) := by decide +kernel
theorem dX4_cutAnew_21 : decode cX4_cutAnew 21 = .ok (.dup, 1) := by decide +kernel
theorem dX4_cutAnew_22 : decode cX4_cutAnew 22 = .ok (.getfield 44, 3) := by decide +kernel
theorem dX4_cutAnew_25 : decode cX4_cutAnew 25 = .ok (.iconst 1, 1) := by decide +kernel
theorem dX4_cutAnew_26 : decode cX4_cutAnew 26 = .ok (.iadd, 1) := by decide +kernel
theorem dX4_cutAnew_27 : decode cX4_cutAnew 27 = .ok (.putfield 44, 3) := by decide +kernel
theorem dX4_cutAnew_30 : decode cX4_cutAnew 30 = .ok (.aload_n 0, 1) := by decide +kernel
theorem dX4_cutAnew_31 : decode cX4_cutAnew 31 = .ok (.dup, 1) := by decide +kernel
theorem dX4_cutAnew_32 : decode cX4_cutAnew 32 = .ok (.getfield 47, 3) := by decide +kernel
theorem dX4_cutAnew_35 : decode cX4_cutAnew 35 = .ok (.iload_n 3, 1) := by decide +kernel
theorem dX4_cutAnew_36 : decode cX4_cutAnew 36 = .ok (.iadd, 1) := by decide +kernel
theorem dX4_cutAnew_37 : decode cX4_cutAnew 37 = .ok (.putfield 47, 3) := by decide +kernel
theorem dX4_cutAnew_40 : decode cX4_cutAnew 40 = .ok (.iload_n 3, 1) := by decide +kernel
theorem dX4_cutAnew_41 : decode cX4_cutAnew 41 = .ok (.ireturn, 1) := by decide +kernel
theorem dX4_hasEngraved_0 : decode cX4_hasEngraved 0 = .ok (.aload_n 0, 1) := by decide +kernel
theorem dX4_hasEngraved_1 : decode cX4_hasEngraved 1 = .ok (.getfield 38, 3) := by decide +kernel
theorem dX4_hasEngraved_4 : decode cX4_hasEngraved 4 = .ok (.ifCond .eq 7, 3) := by decide +kernel
theorem dX4_hasEngraved_7 : decode cX4_hasEngraved 7 = .ok (.iconst 1, 1) := by decide +kernel
theorem dX4_hasEngraved_8 : decode cX4_hasEngraved 8 = .ok (.goto 4, 3) := by decide +kernel
theorem dX4_hasEngraved_11 : decode cX4_hasEngraved 11 = .ok (.iconst 0, 1) := by decide +kernel
theorem dX4_hasEngraved_12 : decode cX4_hasEngraved 12 = .ok (.ireturn, 1) := by decide +kernel
set_option maxRecDepth 20000 in
theorem ggX4_engravedNames_J6_bitCount_0f7a4 : GoodIn wsX4_engravedNames wsJ6_bitCount_0f7a4 := goodIn_r _ [5, 6, 7, 8] (by decide +kernel) (by decide +kernel)
set_option maxRecDepth 20000 in
theorem gX4_engravedNames_J6_bitCount_0f7a4 : GoodIn wsX4_engravedNames (va_wsS RX4 61 yJ6_bitCount_0f7a4 wsJ6_bitCount_0f7a4) := goodIn_app (goodIn_of _ (by decide +kernel)) ggX4_engravedNames_J6_bitCount_0f7a4
theorem dX4_engravedNames_0 : decode cX4_engravedNames 0 = .ok (.aload_n 0, 1) := by decide +kernel
theorem dX4_engravedNames_1 : decode cX4_engravedNames 1 = .ok (.getfield 38, 3) := by decide +kernel
theorem dX4_engravedNames_4 : decode cX4_engravedNames 4 = .ok (.invokestatic 61, 3) := by decide +kernel
theorem dX4_engravedNames_7 : decode cX4_engravedNames 7 = .ok (.ireturn, 1) := by decide +kernel
theorem dX4_isEngraved_0 : decode cX4_isEngraved 0 = .ok (.aload_n 0, 1) := by decide +kernel
theorem dX4_isEngraved_1 : decode cX4_isEngraved 1 = .ok (.getfield 38, 3) := by decide +kernel
theorem dX4_isEngraved_4 : decode cX4_isEngraved 4 = .ok (.iload_n 1, 1) := by decide +kernel
theorem dX4_isEngraved_5 : decode cX4_isEngraved 5 = .ok (.ishr, 1) := by decide +kernel
theorem dX4_isEngraved_6 : decode cX4_isEngraved 6 = .ok (.iconst 1, 1) := by decide +kernel
theorem dX4_isEngraved_7 : decode cX4_isEngraved 7 = .ok (.iand, 1) := by decide +kernel
theorem dX4_isEngraved_8 : decode cX4_isEngraved 8 = .ok (.ifCond .eq 7, 3) := by decide +kernel
theorem dX4_isEngraved_11 : decode cX4_isEngraved 11 = .ok (.iconst 1, 1) := by decide +kernel
theorem dX4_isEngraved_12 : decode cX4_isEngraved 12 = .ok (.goto 4, 3) := by decide +kernel
theorem dX4_isEngraved_15 : decode cX4_isEngraved 15 = .ok (.iconst 0, 1) := by decide +kernel
theorem dX4_isEngraved_16 : decode cX4_isEngraved 16 = .ok (.ireturn, 1) := by decide +kernel
theorem dX4_isEngravedFrom_0 : decode cX4_isEngravedFrom 0 = .ok (.aload_n 0, 1) := by decide +kernel
theorem dX4_isEngravedFrom_1 : decode cX4_isEngravedFrom 1 = .ok (.getfield 38, 3) := by decide +kernel
theorem dX4_isEngravedFrom_4 : decode cX4_isEngravedFrom 4 = .ok (.iload_n 1, 1) := by decide +kernel
theorem dX4_isEngravedFrom_5 : decode cX4_isEngravedFrom 5 = .ok (.ishr, 1) := by decide +kernel
theorem dX4_isEngravedFrom_6 : decode cX4_isEngravedFrom 6 = .ok (.ifCond .eq 7, 3) := by decide +kernel
theorem dX4_isEngravedFrom_9 : decode cX4_isEngravedFrom 9 = .ok (.iconst 1, 1) := by decide +kernel
theorem dX4_isEngravedFrom_10 : decode cX4_isEngravedFrom 10 = .ok (.goto 4, 3) := by decide +kernel
theorem dX4_isEngravedFrom_13 : decode cX4_isEngravedFrom 13 = .ok (.iconst 0, 1) := by decide +kernel
theorem dX4_isEngravedFrom_14 : decode cX4_isEngravedFrom 14 = .ok (.ireturn, 1) := by decide +kernel
set_option maxRecDepth 20000 in
theorem ggX4_engravableSeats_X4_isEngraved : GoodIn wsX4_engravableSeats wsX4_isEngraved := goodIn_r _ [6, 7, 79, 80, 81, 82, 83, 84, 85, 86, 87, 88] (by decide +kernel) (by decide +kernel)
set_option maxRecDepth 20000 in
theorem gX4_engravableSeats_X4_isEngraved : GoodIn wsX4_engravableSeats (wsV RX4 70 RX4 yX4_isEngraved wsX4_isEngraved) := goodIn_app (goodIn_of _ (by decide +kernel)) ggX4_engravableSeats_X4_isEngraved
set_option maxRecDepth 20000 in
theorem ggX4_engravableSeats_X4_fits : GoodIn wsX4_engravableSeats wsX4_fits := goodIn_r _ [11, 12, 13, 14, 15, 16, 17, 5, 18, 1, 19, 20, 21, 22, 23, 24, 25, 26, 27, 28, 29, 30, 31, 32, 33, 34, 35, 36, 37, 38, 39, 40, 41, 42, 43, 44, 45, 46, 47, 48, 49, 50, 51, 52, 53, 54, 55, 56, 57, 58, 59, 60, 61, 62, 63, 64, 65, 66, 67, 68, 69, 70, 71, 72, 73, 74, 75, 76, 77, 78, 79, 80, 81, 82, 83, 84, 85, 86, 87, 88, 89, 90, 91, 92, 93, 94, 95] (by decide +kernel) (by decide +kernel)
set_option maxRecDepth 20000 in
theorem gX4_engravableSeats_X4_fits : GoodIn wsX4_engravableSeats (wsV RX4 74 RX4 yX4_fits wsX4_fits) := goodIn_app (goodIn_of _ (by decide +kernel)) ggX4_engravableSeats_X4_fits
